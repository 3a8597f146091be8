section
/-! words that ride along a walk -/
theorem th_ride {w : Cond} (hr : Jvm.Free.Str.ridesW w = true) (ho : w.onTables = true) {s U : State} (hW : s.WarmedH U.vm) (h : va_Nw w s) : va_Nw w U :=
  va_tabs (A := #[]) ho (rfl : (s.setVm U.vm).vm = U.vm) (Jvm.Free.Str.rides_of_W w hr (s := s) (U := s.setVm U.vm) hW (Jvm.Free.Str.KeepsShape.of_heap rfl) h)
theorem th_rideD {x : MethodName} {s U : State} (hW : s.WarmedH U.vm) (h : va_Nw (.declares x) s) : va_Nw (.declares x) U := th_ride rfl rfl hW h
theorem th_sv {c t : String} {i : Nat} {s : State} {a : Array Value} : (Cond.stringRef c i t).before a s = (((s.vm.findClass c).map fun _ => s.names c i (.string t) && match s.resolvedAt? c i with
      | some (.string _) => true
      | _ => false) == some true) := rfl
theorem th_sref {c t : String} {i : Nat} {s U : State} (hW : s.WarmedH U.vm) (h : va_Nw (.stringRef c i t) s) : va_Nw (.stringRef c i t) U := by
  have h2 := Cond.stringRef_warmed hW h
  rw [th_sv] at h2
  unfold va_Nw
  rw [th_sv]
  exact h2
theorem th_sargs {c t : String} {i : Nat} {s : State} {args : Array Value} (h : va_Nw (.stringRef c i t) s) : (Cond.stringRef c i t).before args s = true := by
  unfold va_Nw at h
  rw [th_sv] at h ⊢
  exact h
theorem th_ncast {C D : String} {s U : State} (hvm : s.vm.Alike U.vm) (h : va_Nw (.not (.castable C D)) s) : va_Nw (.not (.castable C D)) U := by
  unfold va_Nw Cond.before Cond.holds at h ⊢
  simp only [Cond.value, hvm.findClass, hvm.assignable] at h ⊢
  exact h
theorem th_aoa {t : FieldType} {u U : State} (hvm : u.vm.Alike U.vm) (h : va_Nw (.arrayOver (.array t)) u) : va_Nw (.arrayOver (.array t)) U := by
  obtain ⟨comp, c, k, h1, h2, h3, h4, h5⟩ := Jvm.Stand.arrayOver_specB h
  obtain ⟨k', hk', he⟩ := hvm.2.2 _ _ h3
  have hi : (U.vm.classes.findIdx? fun (x : Class) => match x.kind with | .array component _ => component == comp | _ => false) = some c := by
    refine Eq.trans (va_idx_bare U.vm comp).symm ?_
    first | rw [hvm.bare_eq] | rw [← hvm.bare_eq]
    exact (va_idx_bare u.vm comp).trans h2
  have hkind : k'.kind = .array comp (.array t) := by rw [he]; exact h4
  have f1 : U.vm.findClass (FieldType.array t).toString = some comp := by rw [hvm.findClass]; exact h1
  have f2 : U.vm.findClass ("[" ++ (FieldType.array t).toString) = some c := by rw [hvm.findClass]; exact h5
  unfold va_Nw Cond.before Cond.holds
  simp only [Cond.value]
  rw [f1, Option.bind_some]
  refine (congrArg (fun o : Option Nat => (o.bind (fun c => (U.vm.classes[c]?).map fun (k : Class) => match k.kind with | .array _ ty => decide (ty = FieldType.array t) && decide (U.vm.findClass ("[" ++ (FieldType.array t).toString) = some c) | _ => false) == some true)) hi).trans ?_
  simp [hk', hkind, f2]
/-- a static reference of Throwable: laid, and known -/
def th_lz (C n d : String) (A : Nat → Prop) (s : State) (H : Heap) : Prop := (Cond.laysStatic C n d).before #[] ({ s with heap := H } : State) = true ∧ va_Zq C n d A s H
theorem th_lz_zq {C n d : String} {A : Nat → Prop} {s : State} {H : Heap} (h : va_Zq C n d A s H) : ∃ (cf : ClassId) (kf : Class) (fi : Nat) (f : Field) (a : Nat) (cell : Cell), s.fieldFound? C n d = some (cf, kf, fi, f) ∧ f.isStatic = true ∧ kf.init = .initialized ∧ kf.statics = some a ∧ H[a]? = some cell ∧ cell.vm.isStatics = true ∧ (∃ v, cell.slots[f.slot]? = some v ∧ v.isRef = true) ∧ ¬ A a := by
  rcases h with ⟨cf, kf, fi, f, a, cell, h1, h2, h3, h4, h5, h6, h7, h8⟩ | ⟨t, cf, kf, fi, f, a, cell, h1, h2, h3, h4, h5, h6, h7, h8⟩
  · exact ⟨cf, kf, fi, f, a, cell, h1, h2, h3, h4, h5, h6, ⟨_, h7, rfl⟩, h8⟩
  · exact ⟨cf, kf, fi, f, a, cell, h1, h2, h3, h4, h5, h6, ⟨_, h7, rfl⟩, h8⟩
theorem th_lz_isRef {C n d : String} {A : Nat → Prop} {s : State} {args : Array Value} (h : th_lz C n d A s s.heap) : (Cond.isRef (.static C n d)).before args s = true := by
  obtain ⟨cf, kf, fi, f, a, cell, h1, h2, h3, h4, h5, h6, ⟨v, h7, h8⟩, h9⟩ := th_lz_zq h.2
  simp [Cond.before, Cond.holds, Cond.value, Term.eval, State.fieldNamed?, h1, h2, h4, h5, h6, h7]
  cases v <;> first | rfl | (cases h8)
theorem th_lz_lays {C n d : String} {A : Nat → Prop} {s : State} {args : Array Value} (h : th_lz C n d A s s.heap) : (Cond.laysStatic C n d).before args s = true :=
  Jvm.Free.Str.laysStatic_rides (Vm.Alike.refl _) (Jvm.Free.Str.KeepsShape.of_heap rfl) h.1
theorem th_lz_moved {C n d : String} {A A' : Nat → Prop} {s U : State} {H : Heap} (hvm : s.vm.Alike U.vm) (hk : ∀ q : Nat, q < s.heap.size → ¬ A q → H[q]? = s.heap[q]?) (hAA : ∀ q, A' q → A q) (h : th_lz C n d A s s.heap) : th_lz C n d A' U H := by
  refine ⟨?_, va_Zq.moved hvm ((h.2.kept hk).narrow hAA)⟩
  obtain ⟨cf, kf, fi, f, a, cell, h1, h2, h3, h4, h5, h6, -, h9⟩ := th_lz_zq h.2
  obtain ⟨c, k, i, fd, st, cell', hc, hf, hst, hsta, hcell, hiss, hcls, hlt, hty⟩ := Cond.laysStatic_spec h.1
  have e1 : some (cf, kf, fi, f) = some (c, k, i, fd) := h1.symm.trans hf
  have ek : kf = k := by injection e1 with e1; injection e1 with _ e1; injection e1
  have ea : a = st := Option.some.inj (h4.symm.trans (by rw [ek]; exact hsta))
  have hlt0 : a < s.heap.size := (Array.getElem?_eq_some_iff.mp h5).1
  have hH : H[st]? = some cell' := by rw [← ea, hk a hlt0 h9, ea]; exact hcell
  obtain ⟨k', hf', he⟩ := State.fieldFound?_setVm hvm hf
  have hfU : ({ U with heap := H } : State).fieldFound? C n d = some (c, k', i, fd) := hf'
  have hc' : U.vm.findClass C = some c := by rw [hvm.findClass]; exact hc
  have hsta' : k'.statics = some st := by rw [he]; exact hsta
  have hty' : k'.staticTypes[fd.slot]? = some fd.type := by rw [he]; exact hty
  simp [Cond.before, Cond.holds, Cond.value, hc', hfU, hst, hsta', hH, hiss, hcls, hlt, hty']
end
section
/-! a walk begun anew at a later state of itself: what happens then is told against that state -/
theorem th_again {p : Program} {l : Launch} {e : Env} {R R' : Room} {s : State} {m : MethodId} {args : Array Value} {below : List Frame} {meth : Method} {c : Code} {T : State} {locs : List Loc} {cells slots : Nat}
    (X : Stand p l e R s m args below meth c T locs cells slots) (hf : R'.frames ≤ R.frames) (hl : R'.locals ≤ R.locals) (hc : cells + R'.cells ≤ R.cells) (hs : slots + R'.slots ≤ R.slots) :
    Stand p l e R' (T.setFrames (.invoking m args :: below)) m args below meth c T [] 0 0 := by
  obtain ⟨g₀, hg⟩ := Option.isSome_iff_exists.mp X.here.top
  obtain ⟨r, hr⟩ := State.topJava?_eq_some.mp hg
  obtain ⟨t, ht, -⟩ := State.frames_cons hr
  have hcur : T.cur < T.threads.size := State.cur_lt_of_frames hr
  have hF : (T.setFrames (.invoking m args :: below)).frames = .invoking m args :: below := State.frames_setFrames _ hcur
  have hm' : (T.setFrames (.invoking m args :: below)).vm.method? m = some meth := X.method'
  have hU : (T.setFrames (.invoking m args :: below)).localsInUse = s.localsInUse := by
    rw [State.localsInUse_invoking hF hm' X.code, State.localsInUse_invoking X.frames X.method X.code]
  have hsame := X.same
  have hroom : (T.setFrames (.invoking m args :: below)).hasRoom e.platform R' = true := by
    refine State.hasRoom_ride (s := s) (r := R) ?_ ?_ ?_ ?_ ?_ ?_ ?_ X.room
    · rw [hF, X.frames]; simp only [List.length_cons]; omega
    · rw [hU]; omega
    · rw [State.stackLimits_setFrames]; exact X.limits
    · rw [State.stackBytes_setFrames]; exact X.bytes
    · have : T.heap.size ≤ s.heap.size + cells := hsame.2.2.1
      show T.heap.size + R'.cells ≤ _
      omega
    · have h1 : T.slotsUsed = s.slotsUsed + _ := hsame.2.2.2.1
      have h2 := hsame.2.2.2.2.1
      show T.slotsUsed + R'.slots ≤ _
      rw [h1]
      have h3 : ((T.heap.toList.drop s.heap.size).map (·.slots.size)).sum ≤ slots := h2
      have h4 : (((T.setVm s.vm).heap.toList.drop s.heap.size).map (·.slots.size)).sum ≤ slots := h2
      omega
    · exact X.book
  have hhears : (T.setFrames (.invoking m args :: below)).hears m below = true := by
    have h := X.hears
    have hmeth : ∀ mm : MethodId, T.vm.method? mm = s.vm.method? mm := fun mm => X.warmed.alike.method? mm
    have hcode : ∀ mm : MethodId, (T.setFrames (.invoking m args :: below)).code? mm = s.code? mm := fun mm => by
      rw [State.code?_eq, State.code?_eq]
      show (T.vm.method? mm).bind _ = _
      rw [hmeth]
    cases hb : below with
    | nil => rw [hb] at h; simp only [State.hears] at h ⊢; show ((T.vm.method? m).any _) = true; rw [hmeth]; exact h
    | cons f r =>
      rw [hb] at h hcode
      cases f <;> simp only [State.hears] at h ⊢ <;> first | (rw [hcode]; exact h) | (show ((T.vm.method? m).any _) = true; rw [hmeth]; exact h) | exact h
  have hrefl := (State.sameButNew.refl T ht).setFrames (.invoking m args :: below) hcur
  refine ⟨X.admits, X.cas, X.clock, hF, hroom, hhears, hm', X.code, X.here, X.tail, State.WarmedH.refl _, by rw [State.stackLimits_setFrames], by rw [State.stackBytes_setFrames], ?_⟩
  have hself : T = (T.setFrames (.invoking m args :: below)).setFrames T.frames := by
    rw [State.setFrames_setFrames]; exact (State.setFrames_self ht).symm
  obtain ⟨t', ht', -⟩ := State.frames_cons hF
  have h2 := (State.sameButNew.refl (T.setFrames (.invoking m args :: below)) ht').setFrames T.frames (State.cur_lt_of_frames hF)
  rw [← hself] at h2
  exact h2
/-- 'throw new C(text)': from the new to the end, told against the state where it begins -/
theorem th_throw {p : Program} {l : Launch} {e : Env} {R : Room} {s : State} {m : MethodId} {args : Array Value} {below : List Frame} {meth : Method} {c : Code} {T : State} {locs : List Loc} {cells slots : Nat} {cc : ByteArray} {own C text : String} {names : List String} {i1 i2 i3 pc : Nat} {ls : Array Slot} {st : List Value}
    (X : Stand p l e R s m args below meth c T locs cells slots) (hexec : p.tables.exec = Jvm.exec) (htr : e.platform.stackTraces = false) (hb : c.code = cc) (hown : s.vm.findClass own = some m.cls)
    (w1 : (Cond.classLink own i1 C).before args T = true) (w2 : (Cond.initialized C).before args T = true) (w3 : (Cond.stringRef own i2 text).before args s = true) (hw : ∀ w ∈ Bundle.ownAtoms own i3 C names, w.before args T = true)
    (hfit : Bundle.fit C = true) (hfits : ∀ n ∈ names, Bundle.fit n = true)
    (hd0 : decode cc pc = .ok (.new i1, 3)) (hd3 : decode cc (pc + 3) = .ok (.dup, 1)) (hd4 : decode cc (pc + 4) = .ok (.ldc i2, 2)) (hd6 : decode cc (pc + 6) = .ok (.invokespecial i3, 3)) (hd9 : decode cc (pc + 9) = .ok (.athrow, 1))
    (hout : ∀ x ∈ c.exceptionTable.toList, covers x (pc + 9) = false) (hsize : ls.size = c.maxLocals) (hlocks : meth.locks = false)
    (hf : names.length + 3 < R.frames) (hlo : (st.map fun v => v.category).sum + (13 * (names.length + 1) + 43) ≤ R.locals) (hc : cells + 1 ≤ R.cells) (hs : slots + 6 ≤ R.slots) :
    ∃ (U : State) (a : Addr) (ce : Cell), Steps p.tables e below (T.setTop (F0 m pc ls st)) U ∧ U.status = .running ∧ Ended U below (.threw a) ∧ s.WarmedH U.vm ∧ s.sameButNew ({ U with vm := s.vm } : State) locs (cells + 1) (slots + 6) ∧ U.heap[a]? = some ce ∧ ce.vm = .none ∧ s.vm.findClass C = some ce.cls ∧ ∀ (x : Nat) (cx : Cell), T.heap[x]? = some cx → U.heap[x]? = some cx := by
  have Y := th_again (R' := { R with cells := 1, slots := 6 }) X (Nat.le_refl _) (Nat.le_refl _) hc hs
  generalize hs' : T.setFrames (.invoking m args :: below) = s' at Y
  have hwd : ∀ w : Cond, w.before args T = true → w.before args s' = true := fun w h => by rw [← hs', Cond.before_setFrames]; exact h
  have hown' : s'.vm.findClass own = some m.cls := by
    rw [← hs']; show T.vm.findClass own = _
    rw [X.warmed.alike.findClass]; exact hown
  have hheap : s'.heap = T.heap := by rw [← hs']; rfl
  obtain ⟨vm₁, cX, kX, hfX, hkX, -, -, Y₁, st1⟩ := Y.newCold hexec (own := own) (C := C) (index := i1) (n := 6) hown' (hwd _ w1) (hwd _ (hw _ (by simp [Bundle.ownAtoms]))) (hwd _ w2) (g := F0 m pc ls st) rfl (by rw [hb]; exact hd0) (by simp) (by simp)
  generalize hT : (T.setVm vm₁).pushCell { cls := cX, slots := kX.instanceTypes.map defaultValue, vm := .none } = T₁ at Y₁ st1
  have hcellA : T₁.heap[T.heap.size]? = some (freshCell cX kX) := by rw [← hT]; exact State.heap_pushCell_size _ _
  obtain ⟨-, -, -, sa, -, -, -, -, -, hev⟩ := Cond.stringRef_spec hown w3
  have hW : W p l e { R with cells := 1, slots := 6 } s' m args below meth c T₁.heap [] (0 + 1) (0 + 6) (fun U => U.status = .running ∧ Ended U below (.threw T.heap.size) ∧ s'.WarmedH U.vm ∧ s'.sameButNew ({ U with vm := s'.vm } : State) [] 1 6 ∧ ∃ ce, U.heap[T.heap.size]? = some ce ∧ ce.vm = .none ∧ s'.vm.findClass C = some ce.cls) (F0 m (pc + 3) ls (.ref T.heap.size :: st)) := by
    refine lv_dup hexec hb hd3 rfl ?_
    intro T₂ hT₂ Y₂
    obtain ⟨U, hsteps, hrun, hend, hWU, hsame, ce, hce, K⟩ := Y₂.ctorThrowS hexec htr (own := own) (cls := C) (names := names) (ic := i3) hown' hfit hfits (fun w h => hwd w (hw w h)) (fun y hy => by cases hy) hfX hkX (by rw [hT₂]; exact hcellA) (by rw [hheap]; exact Nat.le_refl _) (msg := .ref sa) rfl
      (g := F0 m (pc + 6) ls (.ref sa :: .ref T.heap.size :: .ref T.heap.size :: st)) rfl hsize rfl rfl (rest := st) rfl (by rw [hb]; exact hd6) (by rw [hb]; exact hd9) hout hf (by show 2 * 0 + (1 + (st.map fun v => v.category).sum) + _ ≤ R.locals; omega) hlocks
    have X₂ : Stand p l e R s m args below meth c T₂ (locs ++ []) (cells + (0 + 1)) (slots + (0 + 6)) := by
      have q1 := Y₂.limits
      have q2 := Y₂.bytes
      have q3 := Y₂.warmed
      have q4 := Y₂.same
      rw [← hs'] at q1 q2 q3 q4
      rw [State.stackLimits_setFrames] at q1
      rw [State.stackBytes_setFrames] at q2
      exact X.moved Y₂.here Y₂.tail q1 q2 q3 (State.sameButNew.of_setFrames q4)
    exact ⟨U, X₂.ldcString hexec (own := own) (text := text) (index := i2) (a := sa) hown w3 hev (g := F0 m (pc + 4) ls (.ref T.heap.size :: .ref T.heap.size :: st)) rfl (by rw [hb]; exact hd4) _ hsteps, hrun, hend, hWU, hsame, ce, hce, K.vm, K.cls⟩
  obtain ⟨U, hst, hrun, hend, hWU, hsame, ce, hce, hvm, hcls⟩ := hW T₁ rfl Y₁
  refine ⟨U, T.heap.size, ce, st1 _ hst, hrun, hend, ?_, ?_, hce, hvm, ?_, ?_⟩
  · rw [← hs'] at hWU
    exact State.WarmedH.trans X.warmed hWU
  · rw [← hs'] at hsame
    have h1 : T.sameButNew (U.setVm T.vm) [] 1 6 := State.sameButNew.of_setFrames hsame
    have h2 := X.same.trans (h1.setVm s.vm)
    rw [List.append_nil] at h2
    exact h2
  · rw [← hs'] at hcls
    rw [← X.warmed.alike.findClass]
    exact hcls
  · intro x cx hx
    exact hsame.old_cell (by rw [hheap]; exact hx)
end
section
-- ===== PART A: goes FIRST, ahead of the names: the tables' words, and 'selects' of the private methods out of them =====
/-- a private method of a class that the tables say can be made, by its rows of tables_1 -/
def lw_okq (q : MethodName × Nat) : Prop := (q.1.cls ≠ "java/lang/invoke/MethodHandle" ∧ q.1.cls ≠ "java/lang/invoke/VarHandle") ∧ Cond.instantiable q.1.cls q.2 ∈ tables_1 ∧ Cond.privateMethod q.1 ∈ tables_1 ∧ Cond.instanceMethod q.1 ∈ tables_1
theorem lw_p0 : lw_okq (⟨"CardOffice", "cardsInAll", "()I"⟩, 8) := ⟨⟨by decide +kernel, by decide +kernel⟩, List.mem_of_getElem? (i := 24) (by decide +kernel), List.mem_of_getElem? (i := 238) (by decide +kernel), List.mem_of_getElem? (i := 239) (by decide +kernel)⟩
theorem lw_p1 : lw_okq (⟨"CardOffice", "readColumns", "(JI)Z"⟩, 8) := ⟨⟨by decide +kernel, by decide +kernel⟩, List.mem_of_getElem? (i := 24) (by decide +kernel), List.mem_of_getElem? (i := 242) (by decide +kernel), List.mem_of_getElem? (i := 243) (by decide +kernel)⟩
theorem lw_p2 : lw_okq (⟨"CardOffice$Board", "hasWire", "(II)Z"⟩, 4) := ⟨⟨by decide +kernel, by decide +kernel⟩, List.mem_of_getElem? (i := 181) (by decide +kernel), List.mem_of_getElem? (i := 289) (by decide +kernel), List.mem_of_getElem? (i := 290) (by decide +kernel)⟩
theorem lw_p3 : lw_okq (⟨"java/lang/Throwable", "fillInStackTrace", "(I)Ljava/lang/Throwable;"⟩, 6) := ⟨⟨by decide +kernel, by decide +kernel⟩, List.mem_of_getElem? (i := 381) (by decide +kernel), List.mem_of_getElem? (i := 379) (by decide +kernel), List.mem_of_getElem? (i := 380) (by decide +kernel)⟩
theorem lw_p4 : lw_okq (⟨"CardOffice$Sorter", "fillPockets", "(LCardOffice$Deck;IZ)V"⟩, 3) := ⟨⟨by decide +kernel, by decide +kernel⟩, List.mem_of_getElem? (i := 52) (by decide +kernel), List.mem_of_getElem? (i := 415) (by decide +kernel), List.mem_of_getElem? (i := 416) (by decide +kernel)⟩
theorem lw_p5 : lw_okq (⟨"CardOffice$Sorter", "stackPockets", "()I"⟩, 3) := ⟨⟨by decide +kernel, by decide +kernel⟩, List.mem_of_getElem? (i := 52) (by decide +kernel), List.mem_of_getElem? (i := 436) (by decide +kernel), List.mem_of_getElem? (i := 437) (by decide +kernel)⟩
theorem lw_p6 : lw_okq (⟨"CardOffice$Board", "isFromExit", "(I)Z"⟩, 4) := ⟨⟨by decide +kernel, by decide +kernel⟩, List.mem_of_getElem? (i := 181) (by decide +kernel), List.mem_of_getElem? (i := 551) (by decide +kernel), List.mem_of_getElem? (i := 552) (by decide +kernel)⟩
theorem lw_p7 : lw_okq (⟨"CardOffice$Board", "signFrom", "(ILCardOffice$Card;)I"⟩, 4) := ⟨⟨by decide +kernel, by decide +kernel⟩, List.mem_of_getElem? (i := 181) (by decide +kernel), List.mem_of_getElem? (i := 559) (by decide +kernel), List.mem_of_getElem? (i := 560) (by decide +kernel)⟩
theorem lw_p8 : lw_okq (⟨"CardOffice$Reproducer", "newCard", "()LCardOffice$Card;"⟩, 1) := ⟨⟨by decide +kernel, by decide +kernel⟩, List.mem_of_getElem? (i := 109) (by decide +kernel), List.mem_of_getElem? (i := 571) (by decide +kernel), List.mem_of_getElem? (i := 572) (by decide +kernel)⟩
theorem lw_p9 : lw_okq (⟨"CardOffice$Reproducer", "punchInto", "(LCardOffice$Card;)V"⟩, 1) := ⟨⟨by decide +kernel, by decide +kernel⟩, List.mem_of_getElem? (i := 109) (by decide +kernel), List.mem_of_getElem? (i := 607) (by decide +kernel), List.mem_of_getElem? (i := 608) (by decide +kernel)⟩
theorem lw_p10 : lw_okq (⟨"CardOffice$Tabulator", "faultOfCard", "(LCardOffice$Board;LCardOffice$Card;IZ)I"⟩, 5) := ⟨⟨by decide +kernel, by decide +kernel⟩, List.mem_of_getElem? (i := 138) (by decide +kernel), List.mem_of_getElem? (i := 690) (by decide +kernel), List.mem_of_getElem? (i := 691) (by decide +kernel)⟩
theorem lw_p11 : lw_okq (⟨"CardOffice$Tabulator", "totalsClash", "(LCardOffice$Board;I)Z"⟩, 5) := ⟨⟨by decide +kernel, by decide +kernel⟩, List.mem_of_getElem? (i := 138) (by decide +kernel), List.mem_of_getElem? (i := 695) (by decide +kernel), List.mem_of_getElem? (i := 696) (by decide +kernel)⟩
theorem lw_p12 : lw_okq (⟨"CardOffice$Tabulator", "isAnyOverrun", "(LCardOffice$Board;I)Z"⟩, 5) := ⟨⟨by decide +kernel, by decide +kernel⟩, List.mem_of_getElem? (i := 138) (by decide +kernel), List.mem_of_getElem? (i := 707) (by decide +kernel), List.mem_of_getElem? (i := 708) (by decide +kernel)⟩
theorem lw_p13 : lw_okq (⟨"CardOffice$Tabulator", "entered", "(I)I"⟩, 5) := ⟨⟨by decide +kernel, by decide +kernel⟩, List.mem_of_getElem? (i := 138) (by decide +kernel), List.mem_of_getElem? (i := 711) (by decide +kernel), List.mem_of_getElem? (i := 712) (by decide +kernel)⟩
theorem lw_p14 : lw_okq (⟨"CardOffice$Tabulator", "doTotals", "(LCardOffice$Board;I)V"⟩, 5) := ⟨⟨by decide +kernel, by decide +kernel⟩, List.mem_of_getElem? (i := 138) (by decide +kernel), List.mem_of_getElem? (i := 731) (by decide +kernel), List.mem_of_getElem? (i := 732) (by decide +kernel)⟩
theorem lw_p15 : lw_okq (⟨"CardOffice$Tabulator", "clearCounters", "(LCardOffice$Board;I)V"⟩, 5) := ⟨⟨by decide +kernel, by decide +kernel⟩, List.mem_of_getElem? (i := 138) (by decide +kernel), List.mem_of_getElem? (i := 740) (by decide +kernel), List.mem_of_getElem? (i := 741) (by decide +kernel)⟩
def lw_privs_1 : List (MethodName × Nat) := [(⟨"CardOffice", "cardsInAll", "()I"⟩, 8), (⟨"CardOffice", "readColumns", "(JI)Z"⟩, 8), (⟨"CardOffice$Board", "hasWire", "(II)Z"⟩, 4), (⟨"java/lang/Throwable", "fillInStackTrace", "(I)Ljava/lang/Throwable;"⟩, 6), (⟨"CardOffice$Sorter", "fillPockets", "(LCardOffice$Deck;IZ)V"⟩, 3), (⟨"CardOffice$Sorter", "stackPockets", "()I"⟩, 3), (⟨"CardOffice$Board", "isFromExit", "(I)Z"⟩, 4), (⟨"CardOffice$Board", "signFrom", "(ILCardOffice$Card;)I"⟩, 4), (⟨"CardOffice$Reproducer", "newCard", "()LCardOffice$Card;"⟩, 1), (⟨"CardOffice$Reproducer", "punchInto", "(LCardOffice$Card;)V"⟩, 1), (⟨"CardOffice$Tabulator", "faultOfCard", "(LCardOffice$Board;LCardOffice$Card;IZ)I"⟩, 5), (⟨"CardOffice$Tabulator", "totalsClash", "(LCardOffice$Board;I)Z"⟩, 5), (⟨"CardOffice$Tabulator", "isAnyOverrun", "(LCardOffice$Board;I)Z"⟩, 5), (⟨"CardOffice$Tabulator", "entered", "(I)I"⟩, 5), (⟨"CardOffice$Tabulator", "doTotals", "(LCardOffice$Board;I)V"⟩, 5), (⟨"CardOffice$Tabulator", "clearCounters", "(LCardOffice$Board;I)V"⟩, 5)]
theorem lw_r1 : ∀ q ∈ lw_privs_1, lw_okq q := List.forall_mem_cons.mpr ⟨lw_p0, List.forall_mem_cons.mpr ⟨lw_p1, List.forall_mem_cons.mpr ⟨lw_p2, List.forall_mem_cons.mpr ⟨lw_p3, List.forall_mem_cons.mpr ⟨lw_p4, List.forall_mem_cons.mpr ⟨lw_p5, List.forall_mem_cons.mpr ⟨lw_p6, List.forall_mem_cons.mpr ⟨lw_p7, List.forall_mem_cons.mpr ⟨lw_p8, List.forall_mem_cons.mpr ⟨lw_p9, List.forall_mem_cons.mpr ⟨lw_p10, List.forall_mem_cons.mpr ⟨lw_p11, List.forall_mem_cons.mpr ⟨lw_p12, List.forall_mem_cons.mpr ⟨lw_p13, List.forall_mem_cons.mpr ⟨lw_p14, List.forall_mem_cons.mpr ⟨lw_p15, fun _ h => absurd h List.not_mem_nil⟩⟩⟩⟩⟩⟩⟩⟩⟩⟩⟩⟩⟩⟩⟩⟩
theorem lw_p16 : lw_okq (⟨"CardOffice$Tabulator", "doCard", "(Z)V"⟩, 5) := ⟨⟨by decide +kernel, by decide +kernel⟩, List.mem_of_getElem? (i := 138) (by decide +kernel), List.mem_of_getElem? (i := 744) (by decide +kernel), List.mem_of_getElem? (i := 745) (by decide +kernel)⟩
theorem lw_p17 : lw_okq (⟨"CardOffice$Tabulator", "finish", "(LCardOffice$Board;ILCardOffice$FaultLight;)I"⟩, 5) := ⟨⟨by decide +kernel, by decide +kernel⟩, List.mem_of_getElem? (i := 138) (by decide +kernel), List.mem_of_getElem? (i := 748) (by decide +kernel), List.mem_of_getElem? (i := 749) (by decide +kernel)⟩
theorem lw_p18 : lw_okq (⟨"CardOffice$Tabulator", "faultOfLastTotals", "(LCardOffice$Board;)I"⟩, 5) := ⟨⟨by decide +kernel, by decide +kernel⟩, List.mem_of_getElem? (i := 138) (by decide +kernel), List.mem_of_getElem? (i := 752) (by decide +kernel), List.mem_of_getElem? (i := 753) (by decide +kernel)⟩
theorem lw_p19 : lw_okq (⟨"CardOfficeModel", "newCard", "()I"⟩, 19) := ⟨⟨by decide +kernel, by decide +kernel⟩, List.mem_of_getElem? (i := 798) (by decide +kernel), List.mem_of_getElem? (i := 874) (by decide +kernel), List.mem_of_getElem? (i := 875) (by decide +kernel)⟩
theorem lw_p20 : lw_okq (⟨"CardOfficeModel", "add", "(II)V"⟩, 19) := ⟨⟨by decide +kernel, by decide +kernel⟩, List.mem_of_getElem? (i := 798) (by decide +kernel), List.mem_of_getElem? (i := 878) (by decide +kernel), List.mem_of_getElem? (i := 879) (by decide +kernel)⟩
theorem lw_p21 : lw_okq (⟨"CardOfficeModel", "sift", "(IIZ)I"⟩, 19) := ⟨⟨by decide +kernel, by decide +kernel⟩, List.mem_of_getElem? (i := 798) (by decide +kernel), List.mem_of_getElem? (i := 910) (by decide +kernel), List.mem_of_getElem? (i := 911) (by decide +kernel)⟩
theorem lw_p22 : lw_okq (⟨"CardOfficeModel", "cardAt", "(II)I"⟩, 19) := ⟨⟨by decide +kernel, by decide +kernel⟩, List.mem_of_getElem? (i := 798) (by decide +kernel), List.mem_of_getElem? (i := 914) (by decide +kernel), List.mem_of_getElem? (i := 915) (by decide +kernel)⟩
theorem lw_p23 : lw_okq (⟨"CardOfficeModel", "keyOf", "(IIZ)I"⟩, 19) := ⟨⟨by decide +kernel, by decide +kernel⟩, List.mem_of_getElem? (i := 798) (by decide +kernel), List.mem_of_getElem? (i := 918) (by decide +kernel), List.mem_of_getElem? (i := 919) (by decide +kernel)⟩
theorem lw_p24 : lw_okq (⟨"CardOfficeModel", "at", "(II)I"⟩, 19) := ⟨⟨by decide +kernel, by decide +kernel⟩, List.mem_of_getElem? (i := 798) (by decide +kernel), List.mem_of_getElem? (i := 922) (by decide +kernel), List.mem_of_getElem? (i := 923) (by decide +kernel)⟩
theorem lw_p25 : lw_okq (⟨"CardOfficeModel", "isSorted", "(III)Z"⟩, 19) := ⟨⟨by decide +kernel, by decide +kernel⟩, List.mem_of_getElem? (i := 798) (by decide +kernel), List.mem_of_getElem? (i := 939) (by decide +kernel), List.mem_of_getElem? (i := 940) (by decide +kernel)⟩
theorem lw_p26 : lw_okq (⟨"CardOfficeModel", "compare", "(IIII)I"⟩, 19) := ⟨⟨by decide +kernel, by decide +kernel⟩, List.mem_of_getElem? (i := 798) (by decide +kernel), List.mem_of_getElem? (i := 943) (by decide +kernel), List.mem_of_getElem? (i := 944) (by decide +kernel)⟩
theorem lw_p27 : lw_okq (⟨"CardOfficeModel", "putIn", "([SIIII)V"⟩, 19) := ⟨⟨by decide +kernel, by decide +kernel⟩, List.mem_of_getElem? (i := 798) (by decide +kernel), List.mem_of_getElem? (i := 950) (by decide +kernel), List.mem_of_getElem? (i := 951) (by decide +kernel)⟩
theorem lw_p28 : lw_okq (⟨"CardOfficeModel", "take", "(IIIII)I"⟩, 19) := ⟨⟨by decide +kernel, by decide +kernel⟩, List.mem_of_getElem? (i := 798) (by decide +kernel), List.mem_of_getElem? (i := 962) (by decide +kernel), List.mem_of_getElem? (i := 963) (by decide +kernel)⟩
theorem lw_p29 : lw_okq (⟨"CardOfficeModel", "hasKey", "(IIII)Z"⟩, 19) := ⟨⟨by decide +kernel, by decide +kernel⟩, List.mem_of_getElem? (i := 798) (by decide +kernel), List.mem_of_getElem? (i := 966) (by decide +kernel), List.mem_of_getElem? (i := 967) (by decide +kernel)⟩
theorem lw_p30 : lw_okq (⟨"CardOfficeModel", "leave", "(IIII)V"⟩, 19) := ⟨⟨by decide +kernel, by decide +kernel⟩, List.mem_of_getElem? (i := 798) (by decide +kernel), List.mem_of_getElem? (i := 970) (by decide +kernel), List.mem_of_getElem? (i := 971) (by decide +kernel)⟩
theorem lw_p31 : lw_okq (⟨"CardOfficeModel", "arrives", "(III)I"⟩, 19) := ⟨⟨by decide +kernel, by decide +kernel⟩, List.mem_of_getElem? (i := 798) (by decide +kernel), List.mem_of_getElem? (i := 978) (by decide +kernel), List.mem_of_getElem? (i := 979) (by decide +kernel)⟩
def lw_privs_2 : List (MethodName × Nat) := [(⟨"CardOffice$Tabulator", "doCard", "(Z)V"⟩, 5), (⟨"CardOffice$Tabulator", "finish", "(LCardOffice$Board;ILCardOffice$FaultLight;)I"⟩, 5), (⟨"CardOffice$Tabulator", "faultOfLastTotals", "(LCardOffice$Board;)I"⟩, 5), (⟨"CardOfficeModel", "newCard", "()I"⟩, 19), (⟨"CardOfficeModel", "add", "(II)V"⟩, 19), (⟨"CardOfficeModel", "sift", "(IIZ)I"⟩, 19), (⟨"CardOfficeModel", "cardAt", "(II)I"⟩, 19), (⟨"CardOfficeModel", "keyOf", "(IIZ)I"⟩, 19), (⟨"CardOfficeModel", "at", "(II)I"⟩, 19), (⟨"CardOfficeModel", "isSorted", "(III)Z"⟩, 19), (⟨"CardOfficeModel", "compare", "(IIII)I"⟩, 19), (⟨"CardOfficeModel", "putIn", "([SIIII)V"⟩, 19), (⟨"CardOfficeModel", "take", "(IIIII)I"⟩, 19), (⟨"CardOfficeModel", "hasKey", "(IIII)Z"⟩, 19), (⟨"CardOfficeModel", "leave", "(IIII)V"⟩, 19), (⟨"CardOfficeModel", "arrives", "(III)I"⟩, 19)]
theorem lw_r2 : ∀ q ∈ lw_privs_2, lw_okq q := List.forall_mem_cons.mpr ⟨lw_p16, List.forall_mem_cons.mpr ⟨lw_p17, List.forall_mem_cons.mpr ⟨lw_p18, List.forall_mem_cons.mpr ⟨lw_p19, List.forall_mem_cons.mpr ⟨lw_p20, List.forall_mem_cons.mpr ⟨lw_p21, List.forall_mem_cons.mpr ⟨lw_p22, List.forall_mem_cons.mpr ⟨lw_p23, List.forall_mem_cons.mpr ⟨lw_p24, List.forall_mem_cons.mpr ⟨lw_p25, List.forall_mem_cons.mpr ⟨lw_p26, List.forall_mem_cons.mpr ⟨lw_p27, List.forall_mem_cons.mpr ⟨lw_p28, List.forall_mem_cons.mpr ⟨lw_p29, List.forall_mem_cons.mpr ⟨lw_p30, List.forall_mem_cons.mpr ⟨lw_p31, fun _ h => absurd h List.not_mem_nil⟩⟩⟩⟩⟩⟩⟩⟩⟩⟩⟩⟩⟩⟩⟩⟩
theorem lw_p32 : lw_okq (⟨"CardOfficeModel", "brings", "(II)I"⟩, 19) := ⟨⟨by decide +kernel, by decide +kernel⟩, List.mem_of_getElem? (i := 798) (by decide +kernel), List.mem_of_getElem? (i := 982) (by decide +kernel), List.mem_of_getElem? (i := 983) (by decide +kernel)⟩
theorem lw_p33 : lw_okq (⟨"CardOfficeModel", "fails", "(II)I"⟩, 19) := ⟨⟨by decide +kernel, by decide +kernel⟩, List.mem_of_getElem? (i := 798) (by decide +kernel), List.mem_of_getElem? (i := 986) (by decide +kernel), List.mem_of_getElem? (i := 987) (by decide +kernel)⟩
theorem lw_p34 : lw_okq (⟨"CardOfficeModel", "faultOfGang", "(III)I"⟩, 19) := ⟨⟨by decide +kernel, by decide +kernel⟩, List.mem_of_getElem? (i := 798) (by decide +kernel), List.mem_of_getElem? (i := 994) (by decide +kernel), List.mem_of_getElem? (i := 995) (by decide +kernel)⟩
theorem lw_p35 : lw_okq (⟨"CardOfficeModel", "numberOf", "(II)I"⟩, 19) := ⟨⟨by decide +kernel, by decide +kernel⟩, List.mem_of_getElem? (i := 798) (by decide +kernel), List.mem_of_getElem? (i := 1008) (by decide +kernel), List.mem_of_getElem? (i := 1009) (by decide +kernel)⟩
theorem lw_p36 : lw_okq (⟨"CardOfficeModel", "punches", "(IIJZ)Z"⟩, 19) := ⟨⟨by decide +kernel, by decide +kernel⟩, List.mem_of_getElem? (i := 798) (by decide +kernel), List.mem_of_getElem? (i := 1017) (by decide +kernel), List.mem_of_getElem? (i := 1018) (by decide +kernel)⟩
theorem lw_p37 : lw_okq (⟨"CardOfficeModel", "breaks", "(IIII)Z"⟩, 19) := ⟨⟨by decide +kernel, by decide +kernel⟩, List.mem_of_getElem? (i := 798) (by decide +kernel), List.mem_of_getElem? (i := 1025) (by decide +kernel), List.mem_of_getElem? (i := 1026) (by decide +kernel)⟩
theorem lw_p38 : lw_okq (⟨"CardOfficeModel", "faultOfCard", "(III)I"⟩, 19) := ⟨⟨by decide +kernel, by decide +kernel⟩, List.mem_of_getElem? (i := 798) (by decide +kernel), List.mem_of_getElem? (i := 1029) (by decide +kernel), List.mem_of_getElem? (i := 1030) (by decide +kernel)⟩
theorem lw_p39 : lw_okq (⟨"CardOfficeModel", "isListed", "(I)Z"⟩, 19) := ⟨⟨by decide +kernel, by decide +kernel⟩, List.mem_of_getElem? (i := 798) (by decide +kernel), List.mem_of_getElem? (i := 1033) (by decide +kernel), List.mem_of_getElem? (i := 1034) (by decide +kernel)⟩
theorem lw_p40 : lw_okq (⟨"CardOfficeModel", "counts", "(III)Z"⟩, 19) := ⟨⟨by decide +kernel, by decide +kernel⟩, List.mem_of_getElem? (i := 798) (by decide +kernel), List.mem_of_getElem? (i := 1037) (by decide +kernel), List.mem_of_getElem? (i := 1038) (by decide +kernel)⟩
theorem lw_p41 : lw_okq (⟨"CardOfficeModel", "clashes", "(II)Z"⟩, 19) := ⟨⟨by decide +kernel, by decide +kernel⟩, List.mem_of_getElem? (i := 798) (by decide +kernel), List.mem_of_getElem? (i := 1041) (by decide +kernel), List.mem_of_getElem? (i := 1042) (by decide +kernel)⟩
theorem lw_p42 : lw_okq (⟨"CardOfficeModel", "totals", "(III)I"⟩, 19) := ⟨⟨by decide +kernel, by decide +kernel⟩, List.mem_of_getElem? (i := 798) (by decide +kernel), List.mem_of_getElem? (i := 1045) (by decide +kernel), List.mem_of_getElem? (i := 1046) (by decide +kernel)⟩
theorem lw_p43 : lw_okq (⟨"CardOfficeModel", "wheel", "(II)I"⟩, 19) := ⟨⟨by decide +kernel, by decide +kernel⟩, List.mem_of_getElem? (i := 798) (by decide +kernel), List.mem_of_getElem? (i := 1049) (by decide +kernel), List.mem_of_getElem? (i := 1050) (by decide +kernel)⟩
theorem lw_p44 : lw_okq (⟨"CardOfficeModel", "hasLevel", "(II)Z"⟩, 19) := ⟨⟨by decide +kernel, by decide +kernel⟩, List.mem_of_getElem? (i := 798) (by decide +kernel), List.mem_of_getElem? (i := 1053) (by decide +kernel), List.mem_of_getElem? (i := 1054) (by decide +kernel)⟩
theorem lw_p45 : lw_okq (⟨"CardOfficeModel", "tabulateCard", "(III)V"⟩, 19) := ⟨⟨by decide +kernel, by decide +kernel⟩, List.mem_of_getElem? (i := 798) (by decide +kernel), List.mem_of_getElem? (i := 1058) (by decide +kernel), List.mem_of_getElem? (i := 1059) (by decide +kernel)⟩
theorem lw_p46 : lw_okq (⟨"CardOfficeModel", "total", "(II)V"⟩, 19) := ⟨⟨by decide +kernel, by decide +kernel⟩, List.mem_of_getElem? (i := 798) (by decide +kernel), List.mem_of_getElem? (i := 1062) (by decide +kernel), List.mem_of_getElem? (i := 1063) (by decide +kernel)⟩
theorem lw_p47 : lw_okq (⟨"CardOfficeModel", "print", "(II)V"⟩, 19) := ⟨⟨by decide +kernel, by decide +kernel⟩, List.mem_of_getElem? (i := 798) (by decide +kernel), List.mem_of_getElem? (i := 1066) (by decide +kernel), List.mem_of_getElem? (i := 1067) (by decide +kernel)⟩
def lw_privs_3 : List (MethodName × Nat) := [(⟨"CardOfficeModel", "brings", "(II)I"⟩, 19), (⟨"CardOfficeModel", "fails", "(II)I"⟩, 19), (⟨"CardOfficeModel", "faultOfGang", "(III)I"⟩, 19), (⟨"CardOfficeModel", "numberOf", "(II)I"⟩, 19), (⟨"CardOfficeModel", "punches", "(IIJZ)Z"⟩, 19), (⟨"CardOfficeModel", "breaks", "(IIII)Z"⟩, 19), (⟨"CardOfficeModel", "faultOfCard", "(III)I"⟩, 19), (⟨"CardOfficeModel", "isListed", "(I)Z"⟩, 19), (⟨"CardOfficeModel", "counts", "(III)Z"⟩, 19), (⟨"CardOfficeModel", "clashes", "(II)Z"⟩, 19), (⟨"CardOfficeModel", "totals", "(III)I"⟩, 19), (⟨"CardOfficeModel", "wheel", "(II)I"⟩, 19), (⟨"CardOfficeModel", "hasLevel", "(II)Z"⟩, 19), (⟨"CardOfficeModel", "tabulateCard", "(III)V"⟩, 19), (⟨"CardOfficeModel", "total", "(II)V"⟩, 19), (⟨"CardOfficeModel", "print", "(II)V"⟩, 19)]
theorem lw_r3 : ∀ q ∈ lw_privs_3, lw_okq q := List.forall_mem_cons.mpr ⟨lw_p32, List.forall_mem_cons.mpr ⟨lw_p33, List.forall_mem_cons.mpr ⟨lw_p34, List.forall_mem_cons.mpr ⟨lw_p35, List.forall_mem_cons.mpr ⟨lw_p36, List.forall_mem_cons.mpr ⟨lw_p37, List.forall_mem_cons.mpr ⟨lw_p38, List.forall_mem_cons.mpr ⟨lw_p39, List.forall_mem_cons.mpr ⟨lw_p40, List.forall_mem_cons.mpr ⟨lw_p41, List.forall_mem_cons.mpr ⟨lw_p42, List.forall_mem_cons.mpr ⟨lw_p43, List.forall_mem_cons.mpr ⟨lw_p44, List.forall_mem_cons.mpr ⟨lw_p45, List.forall_mem_cons.mpr ⟨lw_p46, List.forall_mem_cons.mpr ⟨lw_p47, fun _ h => absurd h List.not_mem_nil⟩⟩⟩⟩⟩⟩⟩⟩⟩⟩⟩⟩⟩⟩⟩⟩
theorem lw_p48 : lw_okq (⟨"CardOfficeModel", "faultOfEnd", "(I)I"⟩, 19) := ⟨⟨by decide +kernel, by decide +kernel⟩, List.mem_of_getElem? (i := 798) (by decide +kernel), List.mem_of_getElem? (i := 1070) (by decide +kernel), List.mem_of_getElem? (i := 1071) (by decide +kernel)⟩
def lw_privs_4 : List (MethodName × Nat) := [(⟨"CardOfficeModel", "faultOfEnd", "(I)I"⟩, 19)]
theorem lw_r4 : ∀ q ∈ lw_privs_4, lw_okq q := List.forall_mem_cons.mpr ⟨lw_p48, fun _ h => absurd h List.not_mem_nil⟩
def lw_privs : List (MethodName × Nat) := lw_privs_1 ++ (lw_privs_2 ++ (lw_privs_3 ++ (lw_privs_4)))
def lw_tbl : List Cond := k2_sels lw_privs ++ tables_1
theorem lw_privs_ok : ∀ q ∈ lw_privs, lw_okq q := by
  show ∀ q ∈ lw_privs_1 ++ (lw_privs_2 ++ (lw_privs_3 ++ (lw_privs_4))), lw_okq q
  exact List.forall_mem_append.mpr ⟨lw_r1, List.forall_mem_append.mpr ⟨lw_r2, List.forall_mem_append.mpr ⟨lw_r3, lw_r4⟩⟩⟩
-- ===== names =====
def nm_Ts : List Cond := lw_tbl.filter goodWord
def nm_isNest : Cond → Bool
  | .fieldLinkNest _ _ _ _ _ _ => true
  | .methodLinkNest _ _ _ _ => true
  | .arrayOver (.object _) => true
  | .arrayOver (.array _) => true
  | .declares _ => true
  | .castable _ _ => true
  | .stringRef _ _ _ => true
  | .not (.castable _ _) => true
  | _ => false
def nm_Xw : Cond := .not (.castable "java/lang/IllegalStateException" "java/lang/IllegalArgumentException")
def nm_Ns : List Cond := (nm_Xw :: tables_1).filter nm_isNest
theorem nm_Xm : nm_Xw ∈ nm_Ns := List.mem_filter.mpr ⟨List.mem_cons_self, rfl⟩
theorem nm_good : ∀ w ∈ nm_Ts, goodWord w = true := fun _ h => (List.mem_filter.mp h).2
theorem nm_s {w : Cond} (i : Nat) (h : (k2_sels lw_privs)[i]? = some w) (hg : goodWord w = true) : w ∈ nm_Ts := List.mem_filter.mpr ⟨List.mem_append_left _ (List.mem_of_getElem? h), hg⟩
theorem nm_t1 {w : Cond} (i : Nat) (h : tables_1_1[i]? = some w) (hg : goodWord w = true) : w ∈ nm_Ts := List.mem_filter.mpr ⟨List.mem_append_right _ (show w ∈ tables_1 from List.mem_append_left _ (List.mem_of_getElem? h)), hg⟩
theorem nm_n1 {w : Cond} (i : Nat) (h : tables_1_1[i]? = some w) (hg : nm_isNest w = true) : w ∈ nm_Ns := List.mem_filter.mpr ⟨List.mem_cons_of_mem _ (show w ∈ tables_1 from List.mem_append_left _ (List.mem_of_getElem? h)), hg⟩
theorem nm_t2 {w : Cond} (i : Nat) (h : tables_1_2[i]? = some w) (hg : goodWord w = true) : w ∈ nm_Ts := List.mem_filter.mpr ⟨List.mem_append_right _ (show w ∈ tables_1 from List.mem_append_right _ (List.mem_append_left _ (List.mem_of_getElem? h))), hg⟩
theorem nm_n2 {w : Cond} (i : Nat) (h : tables_1_2[i]? = some w) (hg : nm_isNest w = true) : w ∈ nm_Ns := List.mem_filter.mpr ⟨List.mem_cons_of_mem _ (show w ∈ tables_1 from List.mem_append_right _ (List.mem_append_left _ (List.mem_of_getElem? h))), hg⟩
theorem nm_t3 {w : Cond} (i : Nat) (h : tables_1_3[i]? = some w) (hg : goodWord w = true) : w ∈ nm_Ts := List.mem_filter.mpr ⟨List.mem_append_right _ (show w ∈ tables_1 from List.mem_append_right _ (List.mem_append_right _ (List.mem_append_left _ (List.mem_of_getElem? h)))), hg⟩
theorem nm_n3 {w : Cond} (i : Nat) (h : tables_1_3[i]? = some w) (hg : nm_isNest w = true) : w ∈ nm_Ns := List.mem_filter.mpr ⟨List.mem_cons_of_mem _ (show w ∈ tables_1 from List.mem_append_right _ (List.mem_append_right _ (List.mem_append_left _ (List.mem_of_getElem? h)))), hg⟩
theorem nm_t4 {w : Cond} (i : Nat) (h : tables_1_4[i]? = some w) (hg : goodWord w = true) : w ∈ nm_Ts := List.mem_filter.mpr ⟨List.mem_append_right _ (show w ∈ tables_1 from List.mem_append_right _ (List.mem_append_right _ (List.mem_append_right _ (List.mem_append_left _ (List.mem_of_getElem? h))))), hg⟩
theorem nm_n4 {w : Cond} (i : Nat) (h : tables_1_4[i]? = some w) (hg : nm_isNest w = true) : w ∈ nm_Ns := List.mem_filter.mpr ⟨List.mem_cons_of_mem _ (show w ∈ tables_1 from List.mem_append_right _ (List.mem_append_right _ (List.mem_append_right _ (List.mem_append_left _ (List.mem_of_getElem? h))))), hg⟩
theorem nm_t5 {w : Cond} (i : Nat) (h : tables_1_5[i]? = some w) (hg : goodWord w = true) : w ∈ nm_Ts := List.mem_filter.mpr ⟨List.mem_append_right _ (show w ∈ tables_1 from List.mem_append_right _ (List.mem_append_right _ (List.mem_append_right _ (List.mem_append_right _ (List.mem_of_getElem? h))))), hg⟩
theorem nm_n5 {w : Cond} (i : Nat) (h : tables_1_5[i]? = some w) (hg : nm_isNest w = true) : w ∈ nm_Ns := List.mem_filter.mpr ⟨List.mem_cons_of_mem _ (show w ∈ tables_1 from List.mem_append_right _ (List.mem_append_right _ (List.mem_append_right _ (List.mem_append_right _ (List.mem_of_getElem? h))))), hg⟩
theorem nm_Ns_call {U : State} {g : JFrame} {mk : MethodId} {a : Array Value} (w : Cond) (h : w ∈ nm_Ns) (hZ : va_Nw w U) : va_Nw w (U.calling g mk a) := by
  have h2 := (List.mem_filter.mp h).2
  cases w <;> first | (cases h2; done) | exact th_sref (State.WarmedH.refl U) hZ | exact va_Nw.same rfl (rfl : U.vm = (U.calling g mk a).vm) hZ | (rename_i w9; cases w9 <;> first | (cases h2; done) | exact th_ncast (Vm.Alike.refl U.vm) hZ) | (rename_i ty; cases ty <;> first | exact va_AO.moved (Vm.Alike.refl U.vm) hZ | exact th_aoa (Vm.Alike.refl U.vm) hZ | (cases h2)) | (cases h2)
theorem nm_Ns_warm {s U : State} (w : Cond) (h : w ∈ nm_Ns) (hW : s.WarmedH U.vm) (hZ : va_Nw w s) : va_Nw w U := by
  have h2 := (List.mem_filter.mp h).2
  cases w <;> first | (cases h2; done) | exact va_Nw.warmF hW hZ | exact va_Nw.warmM hW hZ | exact va_Nw.warmC hW hZ | exact th_sref hW hZ | exact th_rideD hW hZ | (rename_i w9; cases w9 <;> first | (cases h2; done) | exact th_ncast hW.alike hZ) | (rename_i ty; cases ty <;> first | exact va_AO.moved hW.alike hZ | exact th_aoa hW.alike hZ | (cases h2)) | (cases h2)
def nm_Hh : List (ByteArray × List (Nat × Nat × Nat × Nat)) := [(method_3_code, [(0, 12, 15, 13)]), (method_4_code, [(0, 12, 15, 13)]), (method_5_code, [(0, 14, 17, 13), (0, 14, 21, 23)]), (method_6_code, [(0, 16, 19, 13), (0, 16, 23, 23)]), (method_7_code, [(0, 12, 15, 13)]), (method_8_code, [(0, 12, 15, 13)]), (method_9_code, [(0, 14, 17, 13)]), (method_10_code, [(0, 10, 13, 13)]), (method_11_code, [(0, 12, 15, 45)]), (method_12_code, [(0, 10, 13, 45)]), (method_13_code, [(0, 9, 12, 45)])]
/-- the exception tables of the law's own methods -/
def nm_Hd (cc : ByteArray) : List (Nat × Nat × Nat × Nat) := ((nm_Hh.find? (fun q => decide (q.1 = cc))).map Prod.snd).getD []
def nm_host : String := "CardOffice"
def nm_Ow : List String := ["CardOffice", "CardOffice$Board", "CardOffice$Card", "CardOffice$Collator", "CardOffice$Deck", "CardOffice$FaultLight", "CardOffice$Jacks", "CardOffice$Paper", "CardOffice$Reproducer", "CardOffice$Sorter", "CardOffice$Tabulator", "CardOfficeModel", "CardOffice$Multiplier", "CardOfficeLaw", "java/util/Arrays", "java/lang/Integer"]
def nm_Own (cn : Nat) : String := nm_Ow.getD cn ""
def nm_Ty : List FieldType := [.int, .byte, .short, .long, .object "CardOffice$Deck", .object "CardOffice$Board", .object "CardOffice$Card", .array .int]
theorem nm_ty0 : nm_Ty[0]? = some .int := rfl
theorem nm_ty1 : nm_Ty[1]? = some .byte := rfl
theorem nm_ty2 : nm_Ty[2]? = some .short := rfl
theorem nm_ty3 : nm_Ty[3]? = some .long := rfl
def nm_T0 : u_T := fun k => match k with
  | 0 => ("CardOffice", "decks", "[LCardOffice$Deck;", true)
  | 1 => ("CardOffice", "boards", "[LCardOffice$Board;", true)
  | 2 => ("CardOffice", "columnsRead", "[I", true)
  | 3 => ("CardOffice", "light", "LCardOffice$FaultLight;", true)
  | 4 => ("CardOffice", "sorter", "LCardOffice$Sorter;", true)
  | 5 => ("CardOffice", "collator", "LCardOffice$Collator;", true)
  | 6 => ("CardOffice", "reproducer", "LCardOffice$Reproducer;", true)
  | _ => ("CardOffice", "tabulator", "LCardOffice$Tabulator;", true)
def nm_Y0 : Nat → FieldType := fun k => match k with
  | 0 => .array (.object "CardOffice$Deck")
  | 1 => .array (.object "CardOffice$Board")
  | 2 => .array (.int)
  | 3 => .object "CardOffice$FaultLight"
  | 4 => .object "CardOffice$Sorter"
  | 5 => .object "CardOffice$Collator"
  | 6 => .object "CardOffice$Reproducer"
  | _ => .object "CardOffice$Tabulator"
def nm_T1 : u_T := fun k => match k with
  | 0 => ("CardOffice$Board", "from", "[I", true)
  | 1 => ("CardOffice$Board", "to", "[I", true)
  | 2 => ("CardOffice$Board", "levels", "[I", true)
  | _ => ("CardOffice$Board", "wires", "I", false)
def nm_Y1 : Nat → FieldType := fun k => match k with
  | 0 => .array (.int)
  | 1 => .array (.int)
  | 2 => .array (.int)
  | _ => .int
def nm_T2 : u_T := fun k => match k with
  | _ => ("CardOffice$Card", "signs", "[I", true)
def nm_Y2 : Nat → FieldType := fun k => match k with
  | _ => .array (.int)
def nm_T3 : u_T := fun k => match k with
  | 0 => ("CardOffice$Collator", "rest", "LCardOffice$Deck;", true)
  | 1 => ("CardOffice$Collator", "otherRest", "LCardOffice$Deck;", true)
  | _ => ("CardOffice$Collator", "brought", "I", false)
def nm_Y3 : Nat → FieldType := fun k => match k with
  | 0 => .object "CardOffice$Deck"
  | 1 => .object "CardOffice$Deck"
  | _ => .int
def nm_T4 : u_T := fun k => match k with
  | 0 => ("CardOffice$Deck", "cards", "[LCardOffice$Card;", true)
  | _ => ("CardOffice$Deck", "size", "I", false)
def nm_Y4 : Nat → FieldType := fun k => match k with
  | 0 => .array (.object "CardOffice$Card")
  | _ => .int
def nm_T5 : u_T := fun k => match k with
  | 0 => ("CardOffice$FaultLight", "kind", "I", false)
  | _ => ("CardOffice$FaultLight", "place", "I", false)
def nm_Y5 : Nat → FieldType := fun k => match k with
  | 0 => .int
  | _ => .int
def nm_T6 : u_T := fun k => match k with
  | 0 => ("CardOffice$Jacks", "firstJack", "I", true)
  | 1 => ("CardOffice$Jacks", "signs", "[I", true)
  | _ => ("CardOffice$Jacks", "clashed", "Z", false)
def nm_Y6 : Nat → FieldType := fun k => match k with
  | 0 => .int
  | 1 => .array (.int)
  | _ => .boolean
def nm_T7 : u_T := fun k => match k with
  | 0 => ("CardOffice$Paper", "signs", "[[I", true)
  | _ => ("CardOffice$Paper", "lines", "I", false)
def nm_Y7 : Nat → FieldType := fun k => match k with
  | 0 => .array (.array (.int))
  | _ => .int
def nm_T8 : u_T := fun k => match k with
  | _ => ("CardOffice$Reproducer", "columns", "LCardOffice$Jacks;", true)
def nm_Y8 : Nat → FieldType := fun k => match k with
  | _ => .object "CardOffice$Jacks"
def nm_T9 : u_T := fun k => match k with
  | 0 => ("CardOffice$Sorter", "places", "[I", true)
  | 1 => ("CardOffice$Sorter", "stacked", "[LCardOffice$Card;", true)
  | _ => ("CardOffice$Sorter", "passes", "I", false)
def nm_Y9 : Nat → FieldType := fun k => match k with
  | 0 => .array (.int)
  | 1 => .array (.object "CardOffice$Card")
  | _ => .int
def nm_T10 : u_T := fun k => match k with
  | 0 => ("CardOffice$Tabulator", "counters", "[I", true)
  | 1 => ("CardOffice$Tabulator", "paper", "LCardOffice$Paper;", true)
  | 2 => ("CardOffice$Tabulator", "totalLine", "LCardOffice$Jacks;", true)
  | 3 => ("CardOffice$Tabulator", "cardLine", "LCardOffice$Jacks;", true)
  | _ => ("CardOffice$Tabulator", "entries", "LCardOffice$Jacks;", true)
def nm_Y10 : Nat → FieldType := fun k => match k with
  | 0 => .array (.int)
  | 1 => .object "CardOffice$Paper"
  | 2 => .object "CardOffice$Jacks"
  | 3 => .object "CardOffice$Jacks"
  | _ => .object "CardOffice$Jacks"
def nm_T11 : u_T := fun k => match k with
  | 0 => ("CardOfficeModel", "thrown", "I", false)
  | 1 => ("CardOfficeModel", "cards", "I", false)
  | 2 => ("CardOfficeModel", "signs", "[B", true)
  | 3 => ("CardOfficeModel", "decks", "[S", true)
  | 4 => ("CardOfficeModel", "sizes", "[I", true)
  | 5 => ("CardOfficeModel", "spare", "[S", true)
  | 6 => ("CardOfficeModel", "rest", "[S", true)
  | 7 => ("CardOfficeModel", "wireFrom", "[B", true)
  | 8 => ("CardOfficeModel", "wireTo", "[B", true)
  | 9 => ("CardOfficeModel", "wires", "[I", true)
  | 10 => ("CardOfficeModel", "levels", "[I", true)
  | 11 => ("CardOfficeModel", "counters", "[I", true)
  | 12 => ("CardOfficeModel", "after", "[I", true)
  | 13 => ("CardOfficeModel", "paper", "[B", true)
  | 14 => ("CardOfficeModel", "lines", "I", false)
  | 15 => ("CardOfficeModel", "passes", "I", false)
  | 16 => ("CardOfficeModel", "brought", "I", false)
  | 17 => ("CardOfficeModel", "faulty", "I", false)
  | _ => ("CardOfficeModel", "faultyAt", "I", false)
def nm_Y11 : Nat → FieldType := fun k => match k with
  | 0 => .int
  | 1 => .int
  | 2 => .array (.byte)
  | 3 => .array (.short)
  | 4 => .array (.int)
  | 5 => .array (.short)
  | 6 => .array (.short)
  | 7 => .array (.byte)
  | 8 => .array (.byte)
  | 9 => .array (.int)
  | 10 => .array (.int)
  | 11 => .array (.int)
  | 12 => .array (.int)
  | 13 => .array (.byte)
  | 14 => .int
  | 15 => .int
  | 16 => .int
  | 17 => .int
  | _ => .int
def nm_Cl : List vw_C := [("CardOffice", nm_T0, 8), ("CardOffice$Board", nm_T1, 4), ("CardOffice$Card", nm_T2, 1), ("CardOffice$Collator", nm_T3, 3), ("CardOffice$Deck", nm_T4, 2), ("CardOffice$FaultLight", nm_T5, 2), ("CardOffice$Jacks", nm_T6, 3), ("CardOffice$Paper", nm_T7, 2), ("CardOffice$Reproducer", nm_T8, 1), ("CardOffice$Sorter", nm_T9, 3), ("CardOffice$Tabulator", nm_T10, 5), ("CardOfficeModel", nm_T11, 19)]
theorem nm_Cl_1000 {q : vw_C} : nm_Cl[1000]? ≠ some q := fun h => by cases h
def nm_FTy (ci k : Nat) : FieldType := match ci with
  | 0 => nm_Y0 k
  | 1 => nm_Y1 k
  | 2 => nm_Y2 k
  | 3 => nm_Y3 k
  | 4 => nm_Y4 k
  | 5 => nm_Y5 k
  | 6 => nm_Y6 k
  | 7 => nm_Y7 k
  | 8 => nm_Y8 k
  | 9 => nm_Y9 k
  | 10 => nm_Y10 k
  | 11 => nm_Y11 k
  | _ => .int
def nm_Fin (ci k : Nat) : Bool := match ci with
  | 0 => (nm_T0 k).2.2.2
  | 1 => (nm_T1 k).2.2.2
  | 2 => (nm_T2 k).2.2.2
  | 3 => (nm_T3 k).2.2.2
  | 4 => (nm_T4 k).2.2.2
  | 5 => (nm_T5 k).2.2.2
  | 6 => (nm_T6 k).2.2.2
  | 7 => (nm_T7 k).2.2.2
  | 8 => (nm_T8 k).2.2.2
  | 9 => (nm_T9 k).2.2.2
  | 10 => (nm_T10 k).2.2.2
  | 11 => (nm_T11 k).2.2.2
  | _ => false
theorem nm_in0 : ∀ w ∈ u_ws "CardOffice" nm_T0 8, w ∈ nm_Ts := by
  intro w hw
  obtain ⟨k, hk, rfl⟩ := List.mem_map.mp hw
  have hk := List.mem_range.mp hk
  match k, hk with
  | 0, _ => exact nm_t1 213 rfl rfl
  | 1, _ => exact nm_t1 215 rfl rfl
  | 2, _ => exact nm_t1 217 rfl rfl
  | 3, _ => exact nm_t1 219 rfl rfl
  | 4, _ => exact nm_t1 221 rfl rfl
  | 5, _ => exact nm_t1 223 rfl rfl
  | 6, _ => exact nm_t1 225 rfl rfl
  | 7, _ => exact nm_t1 227 rfl rfl
  | k + 8, h => exact absurd h (by omega)
theorem nm_nm0 : ∀ a, a < 8 → ∀ b, b < 8 → a ≠ b → (nm_T0 a).2.1 ≠ (nm_T0 b).2.1 := by decide +kernel
theorem nm_pt0 : ∀ k, k < 8 → parseFieldDescriptor (nm_T0 k).2.2.1 = some (nm_Y0 k) := by decide +kernel
theorem nm_ow0 : ∀ k, k < 8 → (nm_T0 k).1 = "CardOffice" := by decide +kernel
theorem nm_in1 : ∀ w ∈ u_ws "CardOffice$Board" nm_T1 4, w ∈ nm_Ts := by
  intro w hw
  obtain ⟨k, hk, rfl⟩ := List.mem_map.mp hw
  have hk := List.mem_range.mp hk
  match k, hk with
  | 0, _ => exact nm_t1 196 rfl rfl
  | 1, _ => exact nm_t1 198 rfl rfl
  | 2, _ => exact nm_t1 200 rfl rfl
  | 3, _ => exact nm_t1 202 rfl rfl
  | k + 4, h => exact absurd h (by omega)
theorem nm_nm1 : ∀ a, a < 4 → ∀ b, b < 4 → a ≠ b → (nm_T1 a).2.1 ≠ (nm_T1 b).2.1 := by decide +kernel
theorem nm_pt1 : ∀ k, k < 4 → parseFieldDescriptor (nm_T1 k).2.2.1 = some (nm_Y1 k) := by decide +kernel
theorem nm_ow1 : ∀ k, k < 4 → (nm_T1 k).1 = "CardOffice$Board" := by decide +kernel
theorem nm_in2 : ∀ w ∈ u_ws "CardOffice$Card" nm_T2 1, w ∈ nm_Ts := by
  intro w hw
  obtain ⟨k, hk, rfl⟩ := List.mem_map.mp hw
  have hk := List.mem_range.mp hk
  match k, hk with
  | 0, _ => exact nm_t2 21 rfl rfl
  | k + 1, h => exact absurd h (by omega)
theorem nm_nm2 : ∀ a, a < 1 → ∀ b, b < 1 → a ≠ b → (nm_T2 a).2.1 ≠ (nm_T2 b).2.1 := by decide +kernel
theorem nm_pt2 : ∀ k, k < 1 → parseFieldDescriptor (nm_T2 k).2.2.1 = some (nm_Y2 k) := by decide +kernel
theorem nm_ow2 : ∀ k, k < 1 → (nm_T2 k).1 = "CardOffice$Card" := by decide +kernel
theorem nm_in3 : ∀ w ∈ u_ws "CardOffice$Collator" nm_T3 3, w ∈ nm_Ts := by
  intro w hw
  obtain ⟨k, hk, rfl⟩ := List.mem_map.mp hw
  have hk := List.mem_range.mp hk
  match k, hk with
  | 0, _ => exact nm_t1 101 rfl rfl
  | 1, _ => exact nm_t1 103 rfl rfl
  | 2, _ => exact nm_t1 105 rfl rfl
  | k + 3, h => exact absurd h (by omega)
theorem nm_nm3 : ∀ a, a < 3 → ∀ b, b < 3 → a ≠ b → (nm_T3 a).2.1 ≠ (nm_T3 b).2.1 := by decide +kernel
theorem nm_pt3 : ∀ k, k < 3 → parseFieldDescriptor (nm_T3 k).2.2.1 = some (nm_Y3 k) := by decide +kernel
theorem nm_ow3 : ∀ k, k < 3 → (nm_T3 k).1 = "CardOffice$Collator" := by decide +kernel
theorem nm_in4 : ∀ w ∈ u_ws "CardOffice$Deck" nm_T4 2, w ∈ nm_Ts := by
  intro w hw
  obtain ⟨k, hk, rfl⟩ := List.mem_map.mp hw
  have hk := List.mem_range.mp hk
  match k, hk with
  | 0, _ => exact nm_t1 92 rfl rfl
  | 1, _ => exact nm_t1 94 rfl rfl
  | k + 2, h => exact absurd h (by omega)
theorem nm_nm4 : ∀ a, a < 2 → ∀ b, b < 2 → a ≠ b → (nm_T4 a).2.1 ≠ (nm_T4 b).2.1 := by decide +kernel
theorem nm_pt4 : ∀ k, k < 2 → parseFieldDescriptor (nm_T4 k).2.2.1 = some (nm_Y4 k) := by decide +kernel
theorem nm_ow4 : ∀ k, k < 2 → (nm_T4 k).1 = "CardOffice$Deck" := by decide +kernel
theorem nm_in5 : ∀ w ∈ u_ws "CardOffice$FaultLight" nm_T5 2, w ∈ nm_Ts := by
  intro w hw
  obtain ⟨k, hk, rfl⟩ := List.mem_map.mp hw
  have hk := List.mem_range.mp hk
  match k, hk with
  | 0, _ => exact nm_t1 45 rfl rfl
  | 1, _ => exact nm_t1 47 rfl rfl
  | k + 2, h => exact absurd h (by omega)
theorem nm_nm5 : ∀ a, a < 2 → ∀ b, b < 2 → a ≠ b → (nm_T5 a).2.1 ≠ (nm_T5 b).2.1 := by decide +kernel
theorem nm_pt5 : ∀ k, k < 2 → parseFieldDescriptor (nm_T5 k).2.2.1 = some (nm_Y5 k) := by decide +kernel
theorem nm_ow5 : ∀ k, k < 2 → (nm_T5 k).1 = "CardOffice$FaultLight" := by decide +kernel
theorem nm_in6 : ∀ w ∈ u_ws "CardOffice$Jacks" nm_T6 3, w ∈ nm_Ts := by
  intro w hw
  obtain ⟨k, hk, rfl⟩ := List.mem_map.mp hw
  have hk := List.mem_range.mp hk
  match k, hk with
  | 0, _ => exact nm_t1 126 rfl rfl
  | 1, _ => exact nm_t1 128 rfl rfl
  | 2, _ => exact nm_t1 130 rfl rfl
  | k + 3, h => exact absurd h (by omega)
theorem nm_nm6 : ∀ a, a < 3 → ∀ b, b < 3 → a ≠ b → (nm_T6 a).2.1 ≠ (nm_T6 b).2.1 := by decide +kernel
theorem nm_pt6 : ∀ k, k < 3 → parseFieldDescriptor (nm_T6 k).2.2.1 = some (nm_Y6 k) := by decide +kernel
theorem nm_ow6 : ∀ k, k < 3 → (nm_T6 k).1 = "CardOffice$Jacks" := by decide +kernel
theorem nm_in7 : ∀ w ∈ u_ws "CardOffice$Paper" nm_T7 2, w ∈ nm_Ts := by
  intro w hw
  obtain ⟨k, hk, rfl⟩ := List.mem_map.mp hw
  have hk := List.mem_range.mp hk
  match k, hk with
  | 0, _ => exact nm_t1 155 rfl rfl
  | 1, _ => exact nm_t1 157 rfl rfl
  | k + 2, h => exact absurd h (by omega)
theorem nm_nm7 : ∀ a, a < 2 → ∀ b, b < 2 → a ≠ b → (nm_T7 a).2.1 ≠ (nm_T7 b).2.1 := by decide +kernel
theorem nm_pt7 : ∀ k, k < 2 → parseFieldDescriptor (nm_T7 k).2.2.1 = some (nm_Y7 k) := by decide +kernel
theorem nm_ow7 : ∀ k, k < 2 → (nm_T7 k).1 = "CardOffice$Paper" := by decide +kernel
theorem nm_in8 : ∀ w ∈ u_ws "CardOffice$Reproducer" nm_T8 1, w ∈ nm_Ts := by
  intro w hw
  obtain ⟨k, hk, rfl⟩ := List.mem_map.mp hw
  have hk := List.mem_range.mp hk
  match k, hk with
  | 0, _ => exact nm_t1 134 rfl rfl
  | k + 1, h => exact absurd h (by omega)
theorem nm_nm8 : ∀ a, a < 1 → ∀ b, b < 1 → a ≠ b → (nm_T8 a).2.1 ≠ (nm_T8 b).2.1 := by decide +kernel
theorem nm_pt8 : ∀ k, k < 1 → parseFieldDescriptor (nm_T8 k).2.2.1 = some (nm_Y8 k) := by decide +kernel
theorem nm_ow8 : ∀ k, k < 1 → (nm_T8 k).1 = "CardOffice$Reproducer" := by decide +kernel
theorem nm_in9 : ∀ w ∈ u_ws "CardOffice$Sorter" nm_T9 3, w ∈ nm_Ts := by
  intro w hw
  obtain ⟨k, hk, rfl⟩ := List.mem_map.mp hw
  have hk := List.mem_range.mp hk
  match k, hk with
  | 0, _ => exact nm_t1 63 rfl rfl
  | 1, _ => exact nm_t1 65 rfl rfl
  | 2, _ => exact nm_t1 67 rfl rfl
  | k + 3, h => exact absurd h (by omega)
theorem nm_nm9 : ∀ a, a < 3 → ∀ b, b < 3 → a ≠ b → (nm_T9 a).2.1 ≠ (nm_T9 b).2.1 := by decide +kernel
theorem nm_pt9 : ∀ k, k < 3 → parseFieldDescriptor (nm_T9 k).2.2.1 = some (nm_Y9 k) := by decide +kernel
theorem nm_ow9 : ∀ k, k < 3 → (nm_T9 k).1 = "CardOffice$Sorter" := by decide +kernel
theorem nm_in10 : ∀ w ∈ u_ws "CardOffice$Tabulator" nm_T10 5, w ∈ nm_Ts := by
  intro w hw
  obtain ⟨k, hk, rfl⟩ := List.mem_map.mp hw
  have hk := List.mem_range.mp hk
  match k, hk with
  | 0, _ => exact nm_t1 169 rfl rfl
  | 1, _ => exact nm_t1 171 rfl rfl
  | 2, _ => exact nm_t1 173 rfl rfl
  | 3, _ => exact nm_t1 175 rfl rfl
  | 4, _ => exact nm_t1 177 rfl rfl
  | k + 5, h => exact absurd h (by omega)
theorem nm_nm10 : ∀ a, a < 5 → ∀ b, b < 5 → a ≠ b → (nm_T10 a).2.1 ≠ (nm_T10 b).2.1 := by decide +kernel
theorem nm_pt10 : ∀ k, k < 5 → parseFieldDescriptor (nm_T10 k).2.2.1 = some (nm_Y10 k) := by decide +kernel
theorem nm_ow10 : ∀ k, k < 5 → (nm_T10 k).1 = "CardOffice$Tabulator" := by decide +kernel
theorem nm_in11 : ∀ w ∈ u_ws "CardOfficeModel" nm_T11 19, w ∈ nm_Ts := by
  intro w hw
  obtain ⟨k, hk, rfl⟩ := List.mem_map.mp hw
  have hk := List.mem_range.mp hk
  match k, hk with
  | 0, _ => exact nm_t4 102 rfl rfl
  | 1, _ => exact nm_t4 104 rfl rfl
  | 2, _ => exact nm_t4 106 rfl rfl
  | 3, _ => exact nm_t4 108 rfl rfl
  | 4, _ => exact nm_t4 110 rfl rfl
  | 5, _ => exact nm_t4 112 rfl rfl
  | 6, _ => exact nm_t4 114 rfl rfl
  | 7, _ => exact nm_t4 116 rfl rfl
  | 8, _ => exact nm_t4 118 rfl rfl
  | 9, _ => exact nm_t4 120 rfl rfl
  | 10, _ => exact nm_t4 122 rfl rfl
  | 11, _ => exact nm_t4 124 rfl rfl
  | 12, _ => exact nm_t4 126 rfl rfl
  | 13, _ => exact nm_t4 128 rfl rfl
  | 14, _ => exact nm_t4 130 rfl rfl
  | 15, _ => exact nm_t4 132 rfl rfl
  | 16, _ => exact nm_t4 134 rfl rfl
  | 17, _ => exact nm_t4 136 rfl rfl
  | 18, _ => exact nm_t4 138 rfl rfl
  | k + 19, h => exact absurd h (by omega)
theorem nm_nm11 : ∀ a, a < 19 → ∀ b, b < 19 → a ≠ b → (nm_T11 a).2.1 ≠ (nm_T11 b).2.1 := by decide +kernel
theorem nm_pt11 : ∀ k, k < 19 → parseFieldDescriptor (nm_T11 k).2.2.1 = some (nm_Y11 k) := by decide +kernel
theorem nm_ow11 : ∀ k, k < 19 → (nm_T11 k).1 = "CardOfficeModel" := by decide +kernel
theorem nm_Cl_ws {ci : Nat} {C : String} {T : u_T} {N : Nat} (hc : nm_Cl[ci]? = some (C, T, N)) : ∀ w ∈ u_ws C T N, w ∈ nm_Ts := by
  match ci, hc with
  | 0, hc => cases hc; exact nm_in0
  | 1, hc => cases hc; exact nm_in1
  | 2, hc => cases hc; exact nm_in2
  | 3, hc => cases hc; exact nm_in3
  | 4, hc => cases hc; exact nm_in4
  | 5, hc => cases hc; exact nm_in5
  | 6, hc => cases hc; exact nm_in6
  | 7, hc => cases hc; exact nm_in7
  | 8, hc => cases hc; exact nm_in8
  | 9, hc => cases hc; exact nm_in9
  | 10, hc => cases hc; exact nm_in10
  | 11, hc => cases hc; exact nm_in11
  | k + 12, hc => exact absurd (List.getElem?_eq_some_iff.mp hc).1 (by simp [nm_Cl])
theorem nm_Cl_nm {ci : Nat} {C : String} {T : u_T} {N : Nat} (hc : nm_Cl[ci]? = some (C, T, N)) : ∀ a, a < N → ∀ b, b < N → a ≠ b → (T a).2.1 ≠ (T b).2.1 := by
  match ci, hc with
  | 0, hc => cases hc; exact nm_nm0
  | 1, hc => cases hc; exact nm_nm1
  | 2, hc => cases hc; exact nm_nm2
  | 3, hc => cases hc; exact nm_nm3
  | 4, hc => cases hc; exact nm_nm4
  | 5, hc => cases hc; exact nm_nm5
  | 6, hc => cases hc; exact nm_nm6
  | 7, hc => cases hc; exact nm_nm7
  | 8, hc => cases hc; exact nm_nm8
  | 9, hc => cases hc; exact nm_nm9
  | 10, hc => cases hc; exact nm_nm10
  | 11, hc => cases hc; exact nm_nm11
  | k + 12, hc => exact absurd (List.getElem?_eq_some_iff.mp hc).1 (by simp [nm_Cl])
theorem nm_Cl_ty {ci : Nat} {C : String} {T : u_T} {N : Nat} (hc : nm_Cl[ci]? = some (C, T, N)) : ∀ k, k < N → parseFieldDescriptor (T k).2.2.1 = some (nm_FTy ci k) := by
  match ci, hc with
  | 0, hc => cases hc; exact nm_pt0
  | 1, hc => cases hc; exact nm_pt1
  | 2, hc => cases hc; exact nm_pt2
  | 3, hc => cases hc; exact nm_pt3
  | 4, hc => cases hc; exact nm_pt4
  | 5, hc => cases hc; exact nm_pt5
  | 6, hc => cases hc; exact nm_pt6
  | 7, hc => cases hc; exact nm_pt7
  | 8, hc => cases hc; exact nm_pt8
  | 9, hc => cases hc; exact nm_pt9
  | 10, hc => cases hc; exact nm_pt10
  | 11, hc => cases hc; exact nm_pt11
  | k + 12, hc => exact absurd (List.getElem?_eq_some_iff.mp hc).1 (by simp [nm_Cl])
theorem nm_Cl_own {ci : Nat} {C : String} {T : u_T} {N : Nat} (hc : nm_Cl[ci]? = some (C, T, N)) : ∀ k, k < N → (T k).1 = nm_Own ci := by
  match ci, hc with
  | 0, hc => cases hc; exact nm_ow0
  | 1, hc => cases hc; exact nm_ow1
  | 2, hc => cases hc; exact nm_ow2
  | 3, hc => cases hc; exact nm_ow3
  | 4, hc => cases hc; exact nm_ow4
  | 5, hc => cases hc; exact nm_ow5
  | 6, hc => cases hc; exact nm_ow6
  | 7, hc => cases hc; exact nm_ow7
  | 8, hc => cases hc; exact nm_ow8
  | 9, hc => cases hc; exact nm_ow9
  | 10, hc => cases hc; exact nm_ow10
  | 11, hc => cases hc; exact nm_ow11
  | k + 12, hc => exact absurd (List.getElem?_eq_some_iff.mp hc).1 (by simp [nm_Cl])
theorem nm_Fin_ok {ci : Nat} {C : String} {T : u_T} {N k : Nat} (hc : nm_Cl[ci]? = some (C, T, N)) (hk : k < N) : nm_Fin ci k = (T k).2.2.2 := by
  match ci, hc with
  | 0, hc => cases hc; rfl
  | 1, hc => cases hc; rfl
  | 2, hc => cases hc; rfl
  | 3, hc => cases hc; rfl
  | 4, hc => cases hc; rfl
  | 5, hc => cases hc; rfl
  | 6, hc => cases hc; rfl
  | 7, hc => cases hc; rfl
  | 8, hc => cases hc; rfl
  | 9, hc => cases hc; rfl
  | 10, hc => cases hc; rfl
  | 11, hc => cases hc; rfl
  | k + 12, hc => exact absurd (List.getElem?_eq_some_iff.mp hc).1 (by simp [nm_Cl])
def nm_FL : List (Nat × Nat × Nat × Nat × Bool) := [(0, 11, 0, 0, true), (0, 17, 0, 1, true), (0, 21, 0, 2, true), (0, 28, 0, 3, true), (0, 35, 0, 4, true), (0, 42, 0, 5, true), (0, 49, 0, 6, true), (0, 56, 0, 7, true), (0, 77, 2, 0, false), (0, 103, 1, 2, false), (0, 183, 4, 1, false), (0, 200, 10, 1, false), (0, 204, 7, 1, false), (0, 211, 7, 0, false), (0, 216, 10, 0, false), (0, 219, 5, 0, false), (0, 222, 5, 1, false), (0, 225, 1, 3, false), (0, 228, 9, 2, false), (0, 231, 3, 2, false), (1, 9, 1, 0, true), (1, 15, 1, 1, true), (1, 18, 1, 2, true), (1, 27, 1, 3, true), (1, 35, 2, 0, false), (2, 9, 2, 0, true), (3, 10, 3, 0, true), (3, 16, 3, 1, true), (3, 19, 4, 1, false), (3, 23, 3, 2, true), (4, 11, 4, 0, true), (4, 17, 4, 1, true), (4, 35, 2, 0, false), (5, 9, 5, 0, true), (5, 15, 5, 1, true), (6, 9, 6, 0, true), (6, 15, 6, 1, true), (6, 25, 6, 2, true), (7, 11, 7, 0, true), (7, 16, 7, 1, true), (8, 14, 8, 0, true), (8, 20, 4, 1, false), (8, 36, 6, 2, false), (8, 58, 2, 0, false), (8, 78, 6, 1, false), (9, 9, 9, 0, true), (9, 17, 9, 1, true), (9, 21, 9, 2, true), (9, 33, 4, 1, false), (9, 46, 4, 0, false), (9, 67, 2, 0, false), (10, 9, 10, 0, true), (10, 18, 10, 1, true), (10, 27, 10, 2, true), (10, 31, 10, 3, true), (10, 34, 10, 4, true), (10, 49, 4, 1, false), (10, 101, 6, 2, false), (10, 120, 1, 2, false), (11, 7, 11, 2, true), (11, 13, 11, 3, true), (11, 17, 11, 4, true), (11, 21, 11, 5, true), (11, 24, 11, 6, true), (11, 27, 11, 7, true), (11, 30, 11, 8, true), (11, 33, 11, 9, true), (11, 36, 11, 10, true), (11, 39, 11, 11, true), (11, 42, 11, 12, true), (11, 45, 11, 13, true), (11, 48, 11, 18, true), (11, 52, 11, 0, true), (11, 62, 11, 1, true), (11, 105, 11, 15, true), (11, 133, 11, 16, true), (11, 148, 11, 17, true), (11, 188, 11, 14, true), (12, 9, 4, 1, false), (12, 66, 2, 0, false)]
def nm_Fld (cn idx : Nat) : Option (Nat × Nat) := (nm_FL.find? (fun q => q.1 == cn && q.2.1 == idx)).map (fun q => (q.2.2.1, q.2.2.2.1))
def nm_FldF (cn idx : Nat) : Bool := ((nm_FL.find? (fun q => q.1 == cn && q.2.1 == idx)).map (fun q => q.2.2.2.2)).getD false
def nm_FP (q : Nat × Nat × Nat × Nat × Bool) : Prop := ∃ C T N, nm_Cl[q.2.2.1]? = some (C, T, N) ∧ q.2.2.2.1 < N ∧ (if q.2.2.2.2 = true then Cond.fieldLink (nm_Own q.1) q.2.1 (T q.2.2.2.1).1 (T q.2.2.2.1).2.1 (T q.2.2.2.1).2.2.1 ∈ nm_Ts else Cond.fieldLinkNest (nm_Own q.1) q.2.1 (T q.2.2.2.1).1 (T q.2.2.2.1).2.1 (T q.2.2.2.1).2.2.1 nm_host ∈ nm_Ns)
theorem nm_f0 : nm_FP (0, 11, 0, 0, true) := ⟨"CardOffice", nm_T0, 8, rfl, (by decide : 0 < 8), nm_t1 205 rfl rfl⟩
theorem nm_f1 : nm_FP (0, 17, 0, 1, true) := ⟨"CardOffice", nm_T0, 8, rfl, (by decide : 1 < 8), nm_t1 206 rfl rfl⟩
theorem nm_f2 : nm_FP (0, 21, 0, 2, true) := ⟨"CardOffice", nm_T0, 8, rfl, (by decide : 2 < 8), nm_t1 207 rfl rfl⟩
theorem nm_f3 : nm_FP (0, 28, 0, 3, true) := ⟨"CardOffice", nm_T0, 8, rfl, (by decide : 3 < 8), nm_t1 208 rfl rfl⟩
theorem nm_f4 : nm_FP (0, 35, 0, 4, true) := ⟨"CardOffice", nm_T0, 8, rfl, (by decide : 4 < 8), nm_t1 209 rfl rfl⟩
theorem nm_f5 : nm_FP (0, 42, 0, 5, true) := ⟨"CardOffice", nm_T0, 8, rfl, (by decide : 5 < 8), nm_t1 210 rfl rfl⟩
theorem nm_f6 : nm_FP (0, 49, 0, 6, true) := ⟨"CardOffice", nm_T0, 8, rfl, (by decide : 6 < 8), nm_t1 211 rfl rfl⟩
theorem nm_f7 : nm_FP (0, 56, 0, 7, true) := ⟨"CardOffice", nm_T0, 8, rfl, (by decide : 7 < 8), nm_t1 212 rfl rfl⟩
theorem nm_f8 : nm_FP (0, 77, 2, 0, false) := ⟨"CardOffice$Card", nm_T2, 1, rfl, (by decide : 0 < 1), nm_n2 15 rfl rfl⟩
theorem nm_f9 : nm_FP (0, 103, 1, 2, false) := ⟨"CardOffice$Board", nm_T1, 4, rfl, (by decide : 2 < 4), nm_n1 192 rfl rfl⟩
theorem nm_f10 : nm_FP (0, 183, 4, 1, false) := ⟨"CardOffice$Deck", nm_T4, 2, rfl, (by decide : 1 < 2), nm_n1 91 rfl rfl⟩
theorem nm_f11 : nm_FP (0, 200, 10, 1, false) := ⟨"CardOffice$Tabulator", nm_T10, 5, rfl, (by decide : 1 < 5), nm_n1 165 rfl rfl⟩
theorem nm_f12 : nm_FP (0, 204, 7, 1, false) := ⟨"CardOffice$Paper", nm_T7, 2, rfl, (by decide : 1 < 2), nm_n1 154 rfl rfl⟩
theorem nm_f13 : nm_FP (0, 211, 7, 0, false) := ⟨"CardOffice$Paper", nm_T7, 2, rfl, (by decide : 0 < 2), nm_n1 152 rfl rfl⟩
theorem nm_f14 : nm_FP (0, 216, 10, 0, false) := ⟨"CardOffice$Tabulator", nm_T10, 5, rfl, (by decide : 0 < 5), nm_n1 163 rfl rfl⟩
theorem nm_f15 : nm_FP (0, 219, 5, 0, false) := ⟨"CardOffice$FaultLight", nm_T5, 2, rfl, (by decide : 0 < 2), nm_n1 42 rfl rfl⟩
theorem nm_f16 : nm_FP (0, 222, 5, 1, false) := ⟨"CardOffice$FaultLight", nm_T5, 2, rfl, (by decide : 1 < 2), nm_n1 44 rfl rfl⟩
theorem nm_f17 : nm_FP (0, 225, 1, 3, false) := ⟨"CardOffice$Board", nm_T1, 4, rfl, (by decide : 3 < 4), nm_n1 195 rfl rfl⟩
theorem nm_f18 : nm_FP (0, 228, 9, 2, false) := ⟨"CardOffice$Sorter", nm_T9, 3, rfl, (by decide : 2 < 3), nm_n1 62 rfl rfl⟩
theorem nm_f19 : nm_FP (0, 231, 3, 2, false) := ⟨"CardOffice$Collator", nm_T3, 3, rfl, (by decide : 2 < 3), nm_n1 100 rfl rfl⟩
theorem nm_f20 : nm_FP (1, 9, 1, 0, true) := ⟨"CardOffice$Board", nm_T1, 4, rfl, (by decide : 0 < 4), nm_t1 189 rfl rfl⟩
theorem nm_f21 : nm_FP (1, 15, 1, 1, true) := ⟨"CardOffice$Board", nm_T1, 4, rfl, (by decide : 1 < 4), nm_t1 190 rfl rfl⟩
theorem nm_f22 : nm_FP (1, 18, 1, 2, true) := ⟨"CardOffice$Board", nm_T1, 4, rfl, (by decide : 2 < 4), nm_t1 191 rfl rfl⟩
theorem nm_f23 : nm_FP (1, 27, 1, 3, true) := ⟨"CardOffice$Board", nm_T1, 4, rfl, (by decide : 3 < 4), nm_t1 194 rfl rfl⟩
theorem nm_f24 : nm_FP (1, 35, 2, 0, false) := ⟨"CardOffice$Card", nm_T2, 1, rfl, (by decide : 0 < 1), nm_n2 19 rfl rfl⟩
theorem nm_f25 : nm_FP (2, 9, 2, 0, true) := ⟨"CardOffice$Card", nm_T2, 1, rfl, (by decide : 0 < 1), nm_t2 14 rfl rfl⟩
theorem nm_f26 : nm_FP (3, 10, 3, 0, true) := ⟨"CardOffice$Collator", nm_T3, 3, rfl, (by decide : 0 < 3), nm_t1 97 rfl rfl⟩
theorem nm_f27 : nm_FP (3, 16, 3, 1, true) := ⟨"CardOffice$Collator", nm_T3, 3, rfl, (by decide : 1 < 3), nm_t1 98 rfl rfl⟩
theorem nm_f28 : nm_FP (3, 19, 4, 1, false) := ⟨"CardOffice$Deck", nm_T4, 2, rfl, (by decide : 1 < 2), nm_n1 85 rfl rfl⟩
theorem nm_f29 : nm_FP (3, 23, 3, 2, true) := ⟨"CardOffice$Collator", nm_T3, 3, rfl, (by decide : 2 < 3), nm_t1 99 rfl rfl⟩
theorem nm_f30 : nm_FP (4, 11, 4, 0, true) := ⟨"CardOffice$Deck", nm_T4, 2, rfl, (by decide : 0 < 2), nm_t1 83 rfl rfl⟩
theorem nm_f31 : nm_FP (4, 17, 4, 1, true) := ⟨"CardOffice$Deck", nm_T4, 2, rfl, (by decide : 1 < 2), nm_t1 90 rfl rfl⟩
theorem nm_f32 : nm_FP (4, 35, 2, 0, false) := ⟨"CardOffice$Card", nm_T2, 1, rfl, (by decide : 0 < 1), nm_n2 20 rfl rfl⟩
theorem nm_f33 : nm_FP (5, 9, 5, 0, true) := ⟨"CardOffice$FaultLight", nm_T5, 2, rfl, (by decide : 0 < 2), nm_t1 41 rfl rfl⟩
theorem nm_f34 : nm_FP (5, 15, 5, 1, true) := ⟨"CardOffice$FaultLight", nm_T5, 2, rfl, (by decide : 1 < 2), nm_t1 43 rfl rfl⟩
theorem nm_f35 : nm_FP (6, 9, 6, 0, true) := ⟨"CardOffice$Jacks", nm_T6, 3, rfl, (by decide : 0 < 3), nm_t1 120 rfl rfl⟩
theorem nm_f36 : nm_FP (6, 15, 6, 1, true) := ⟨"CardOffice$Jacks", nm_T6, 3, rfl, (by decide : 1 < 3), nm_t1 121 rfl rfl⟩
theorem nm_f37 : nm_FP (6, 25, 6, 2, true) := ⟨"CardOffice$Jacks", nm_T6, 3, rfl, (by decide : 2 < 3), nm_t1 123 rfl rfl⟩
theorem nm_f38 : nm_FP (7, 11, 7, 0, true) := ⟨"CardOffice$Paper", nm_T7, 2, rfl, (by decide : 0 < 2), nm_t1 151 rfl rfl⟩
theorem nm_f39 : nm_FP (7, 16, 7, 1, true) := ⟨"CardOffice$Paper", nm_T7, 2, rfl, (by decide : 1 < 2), nm_t1 153 rfl rfl⟩
theorem nm_f40 : nm_FP (8, 14, 8, 0, true) := ⟨"CardOffice$Reproducer", nm_T8, 1, rfl, (by decide : 0 < 1), nm_t1 133 rfl rfl⟩
theorem nm_f41 : nm_FP (8, 20, 4, 1, false) := ⟨"CardOffice$Deck", nm_T4, 2, rfl, (by decide : 1 < 2), nm_n1 86 rfl rfl⟩
theorem nm_f42 : nm_FP (8, 36, 6, 2, false) := ⟨"CardOffice$Jacks", nm_T6, 3, rfl, (by decide : 2 < 3), nm_n1 124 rfl rfl⟩
theorem nm_f43 : nm_FP (8, 58, 2, 0, false) := ⟨"CardOffice$Card", nm_T2, 1, rfl, (by decide : 0 < 1), nm_n2 16 rfl rfl⟩
theorem nm_f44 : nm_FP (8, 78, 6, 1, false) := ⟨"CardOffice$Jacks", nm_T6, 3, rfl, (by decide : 1 < 3), nm_n1 122 rfl rfl⟩
theorem nm_f45 : nm_FP (9, 9, 9, 0, true) := ⟨"CardOffice$Sorter", nm_T9, 3, rfl, (by decide : 0 < 3), nm_t1 59 rfl rfl⟩
theorem nm_f46 : nm_FP (9, 17, 9, 1, true) := ⟨"CardOffice$Sorter", nm_T9, 3, rfl, (by decide : 1 < 3), nm_t1 60 rfl rfl⟩
theorem nm_f47 : nm_FP (9, 21, 9, 2, true) := ⟨"CardOffice$Sorter", nm_T9, 3, rfl, (by decide : 2 < 3), nm_t1 61 rfl rfl⟩
theorem nm_f48 : nm_FP (9, 33, 4, 1, false) := ⟨"CardOffice$Deck", nm_T4, 2, rfl, (by decide : 1 < 2), nm_n1 89 rfl rfl⟩
theorem nm_f49 : nm_FP (9, 46, 4, 0, false) := ⟨"CardOffice$Deck", nm_T4, 2, rfl, (by decide : 0 < 2), nm_n1 84 rfl rfl⟩
theorem nm_f50 : nm_FP (9, 67, 2, 0, false) := ⟨"CardOffice$Card", nm_T2, 1, rfl, (by decide : 0 < 1), nm_n2 18 rfl rfl⟩
theorem nm_f51 : nm_FP (10, 9, 10, 0, true) := ⟨"CardOffice$Tabulator", nm_T10, 5, rfl, (by decide : 0 < 5), nm_t1 162 rfl rfl⟩
theorem nm_f52 : nm_FP (10, 18, 10, 1, true) := ⟨"CardOffice$Tabulator", nm_T10, 5, rfl, (by decide : 1 < 5), nm_t1 164 rfl rfl⟩
theorem nm_f53 : nm_FP (10, 27, 10, 2, true) := ⟨"CardOffice$Tabulator", nm_T10, 5, rfl, (by decide : 2 < 5), nm_t1 166 rfl rfl⟩
theorem nm_f54 : nm_FP (10, 31, 10, 3, true) := ⟨"CardOffice$Tabulator", nm_T10, 5, rfl, (by decide : 3 < 5), nm_t1 167 rfl rfl⟩
theorem nm_f55 : nm_FP (10, 34, 10, 4, true) := ⟨"CardOffice$Tabulator", nm_T10, 5, rfl, (by decide : 4 < 5), nm_t1 168 rfl rfl⟩
theorem nm_f56 : nm_FP (10, 49, 4, 1, false) := ⟨"CardOffice$Deck", nm_T4, 2, rfl, (by decide : 1 < 2), nm_n1 88 rfl rfl⟩
theorem nm_f57 : nm_FP (10, 101, 6, 2, false) := ⟨"CardOffice$Jacks", nm_T6, 3, rfl, (by decide : 2 < 3), nm_n1 125 rfl rfl⟩
theorem nm_f58 : nm_FP (10, 120, 1, 2, false) := ⟨"CardOffice$Board", nm_T1, 4, rfl, (by decide : 2 < 4), nm_n1 193 rfl rfl⟩
theorem nm_f59 : nm_FP (11, 7, 11, 2, true) := ⟨"CardOfficeModel", nm_T11, 19, rfl, (by decide : 2 < 19), nm_t4 85 rfl rfl⟩
theorem nm_f60 : nm_FP (11, 13, 11, 3, true) := ⟨"CardOfficeModel", nm_T11, 19, rfl, (by decide : 3 < 19), nm_t4 86 rfl rfl⟩
theorem nm_f61 : nm_FP (11, 17, 11, 4, true) := ⟨"CardOfficeModel", nm_T11, 19, rfl, (by decide : 4 < 19), nm_t4 87 rfl rfl⟩
theorem nm_f62 : nm_FP (11, 21, 11, 5, true) := ⟨"CardOfficeModel", nm_T11, 19, rfl, (by decide : 5 < 19), nm_t4 88 rfl rfl⟩
theorem nm_f63 : nm_FP (11, 24, 11, 6, true) := ⟨"CardOfficeModel", nm_T11, 19, rfl, (by decide : 6 < 19), nm_t4 89 rfl rfl⟩
theorem nm_f64 : nm_FP (11, 27, 11, 7, true) := ⟨"CardOfficeModel", nm_T11, 19, rfl, (by decide : 7 < 19), nm_t4 90 rfl rfl⟩
theorem nm_f65 : nm_FP (11, 30, 11, 8, true) := ⟨"CardOfficeModel", nm_T11, 19, rfl, (by decide : 8 < 19), nm_t4 91 rfl rfl⟩
theorem nm_f66 : nm_FP (11, 33, 11, 9, true) := ⟨"CardOfficeModel", nm_T11, 19, rfl, (by decide : 9 < 19), nm_t4 92 rfl rfl⟩
theorem nm_f67 : nm_FP (11, 36, 11, 10, true) := ⟨"CardOfficeModel", nm_T11, 19, rfl, (by decide : 10 < 19), nm_t4 93 rfl rfl⟩
theorem nm_f68 : nm_FP (11, 39, 11, 11, true) := ⟨"CardOfficeModel", nm_T11, 19, rfl, (by decide : 11 < 19), nm_t4 94 rfl rfl⟩
theorem nm_f69 : nm_FP (11, 42, 11, 12, true) := ⟨"CardOfficeModel", nm_T11, 19, rfl, (by decide : 12 < 19), nm_t4 95 rfl rfl⟩
theorem nm_f70 : nm_FP (11, 45, 11, 13, true) := ⟨"CardOfficeModel", nm_T11, 19, rfl, (by decide : 13 < 19), nm_t4 96 rfl rfl⟩
theorem nm_f71 : nm_FP (11, 48, 11, 18, true) := ⟨"CardOfficeModel", nm_T11, 19, rfl, (by decide : 18 < 19), nm_t4 101 rfl rfl⟩
theorem nm_f72 : nm_FP (11, 52, 11, 0, true) := ⟨"CardOfficeModel", nm_T11, 19, rfl, (by decide : 0 < 19), nm_t4 83 rfl rfl⟩
theorem nm_f73 : nm_FP (11, 62, 11, 1, true) := ⟨"CardOfficeModel", nm_T11, 19, rfl, (by decide : 1 < 19), nm_t4 84 rfl rfl⟩
theorem nm_f74 : nm_FP (11, 105, 11, 15, true) := ⟨"CardOfficeModel", nm_T11, 19, rfl, (by decide : 15 < 19), nm_t4 98 rfl rfl⟩
theorem nm_f75 : nm_FP (11, 133, 11, 16, true) := ⟨"CardOfficeModel", nm_T11, 19, rfl, (by decide : 16 < 19), nm_t4 99 rfl rfl⟩
theorem nm_f76 : nm_FP (11, 148, 11, 17, true) := ⟨"CardOfficeModel", nm_T11, 19, rfl, (by decide : 17 < 19), nm_t4 100 rfl rfl⟩
theorem nm_f77 : nm_FP (11, 188, 11, 14, true) := ⟨"CardOfficeModel", nm_T11, 19, rfl, (by decide : 14 < 19), nm_t4 97 rfl rfl⟩
theorem nm_f78 : nm_FP (12, 9, 4, 1, false) := ⟨"CardOffice$Deck", nm_T4, 2, rfl, (by decide : 1 < 2), nm_n1 87 rfl rfl⟩
theorem nm_f79 : nm_FP (12, 66, 2, 0, false) := ⟨"CardOffice$Card", nm_T2, 1, rfl, (by decide : 0 < 1), nm_n2 17 rfl rfl⟩
set_option maxRecDepth 20000 in
theorem nm_FL_ok : ∀ q ∈ nm_FL, nm_FP q := List.forall_mem_cons.mpr ⟨nm_f0, List.forall_mem_cons.mpr ⟨nm_f1, List.forall_mem_cons.mpr ⟨nm_f2, List.forall_mem_cons.mpr ⟨nm_f3, List.forall_mem_cons.mpr ⟨nm_f4, List.forall_mem_cons.mpr ⟨nm_f5, List.forall_mem_cons.mpr ⟨nm_f6, List.forall_mem_cons.mpr ⟨nm_f7, List.forall_mem_cons.mpr ⟨nm_f8, List.forall_mem_cons.mpr ⟨nm_f9, List.forall_mem_cons.mpr ⟨nm_f10, List.forall_mem_cons.mpr ⟨nm_f11, List.forall_mem_cons.mpr ⟨nm_f12, List.forall_mem_cons.mpr ⟨nm_f13, List.forall_mem_cons.mpr ⟨nm_f14, List.forall_mem_cons.mpr ⟨nm_f15, List.forall_mem_cons.mpr ⟨nm_f16, List.forall_mem_cons.mpr ⟨nm_f17, List.forall_mem_cons.mpr ⟨nm_f18, List.forall_mem_cons.mpr ⟨nm_f19, List.forall_mem_cons.mpr ⟨nm_f20, List.forall_mem_cons.mpr ⟨nm_f21, List.forall_mem_cons.mpr ⟨nm_f22, List.forall_mem_cons.mpr ⟨nm_f23, List.forall_mem_cons.mpr ⟨nm_f24, List.forall_mem_cons.mpr ⟨nm_f25, List.forall_mem_cons.mpr ⟨nm_f26, List.forall_mem_cons.mpr ⟨nm_f27, List.forall_mem_cons.mpr ⟨nm_f28, List.forall_mem_cons.mpr ⟨nm_f29, List.forall_mem_cons.mpr ⟨nm_f30, List.forall_mem_cons.mpr ⟨nm_f31, List.forall_mem_cons.mpr ⟨nm_f32, List.forall_mem_cons.mpr ⟨nm_f33, List.forall_mem_cons.mpr ⟨nm_f34, List.forall_mem_cons.mpr ⟨nm_f35, List.forall_mem_cons.mpr ⟨nm_f36, List.forall_mem_cons.mpr ⟨nm_f37, List.forall_mem_cons.mpr ⟨nm_f38, List.forall_mem_cons.mpr ⟨nm_f39, List.forall_mem_cons.mpr ⟨nm_f40, List.forall_mem_cons.mpr ⟨nm_f41, List.forall_mem_cons.mpr ⟨nm_f42, List.forall_mem_cons.mpr ⟨nm_f43, List.forall_mem_cons.mpr ⟨nm_f44, List.forall_mem_cons.mpr ⟨nm_f45, List.forall_mem_cons.mpr ⟨nm_f46, List.forall_mem_cons.mpr ⟨nm_f47, List.forall_mem_cons.mpr ⟨nm_f48, List.forall_mem_cons.mpr ⟨nm_f49, List.forall_mem_cons.mpr ⟨nm_f50, List.forall_mem_cons.mpr ⟨nm_f51, List.forall_mem_cons.mpr ⟨nm_f52, List.forall_mem_cons.mpr ⟨nm_f53, List.forall_mem_cons.mpr ⟨nm_f54, List.forall_mem_cons.mpr ⟨nm_f55, List.forall_mem_cons.mpr ⟨nm_f56, List.forall_mem_cons.mpr ⟨nm_f57, List.forall_mem_cons.mpr ⟨nm_f58, List.forall_mem_cons.mpr ⟨nm_f59, List.forall_mem_cons.mpr ⟨nm_f60, List.forall_mem_cons.mpr ⟨nm_f61, List.forall_mem_cons.mpr ⟨nm_f62, List.forall_mem_cons.mpr ⟨nm_f63, List.forall_mem_cons.mpr ⟨nm_f64, List.forall_mem_cons.mpr ⟨nm_f65, List.forall_mem_cons.mpr ⟨nm_f66, List.forall_mem_cons.mpr ⟨nm_f67, List.forall_mem_cons.mpr ⟨nm_f68, List.forall_mem_cons.mpr ⟨nm_f69, List.forall_mem_cons.mpr ⟨nm_f70, List.forall_mem_cons.mpr ⟨nm_f71, List.forall_mem_cons.mpr ⟨nm_f72, List.forall_mem_cons.mpr ⟨nm_f73, List.forall_mem_cons.mpr ⟨nm_f74, List.forall_mem_cons.mpr ⟨nm_f75, List.forall_mem_cons.mpr ⟨nm_f76, List.forall_mem_cons.mpr ⟨nm_f77, List.forall_mem_cons.mpr ⟨nm_f78, List.forall_mem_cons.mpr ⟨nm_f79, fun _ h => absurd h List.not_mem_nil⟩⟩⟩⟩⟩⟩⟩⟩⟩⟩⟩⟩⟩⟩⟩⟩⟩⟩⟩⟩⟩⟩⟩⟩⟩⟩⟩⟩⟩⟩⟩⟩⟩⟩⟩⟩⟩⟩⟩⟩⟩⟩⟩⟩⟩⟩⟩⟩⟩⟩⟩⟩⟩⟩⟩⟩⟩⟩⟩⟩⟩⟩⟩⟩⟩⟩⟩⟩⟩⟩⟩⟩⟩⟩⟩⟩⟩⟩⟩⟩
theorem nm_Fld_ok {cn idx ci k : Nat} (h : nm_Fld cn idx = some (ci, k)) : ∃ C T N, nm_Cl[ci]? = some (C, T, N) ∧ k < N ∧ (Cond.fieldLink (nm_Own cn) idx (T k).1 (T k).2.1 (T k).2.2.1 ∈ nm_Ts ∨ Cond.fieldLinkNest (nm_Own cn) idx (T k).1 (T k).2.1 (T k).2.2.1 nm_host ∈ nm_Ns) := by
  unfold nm_Fld at h
  obtain ⟨q, hq, he⟩ := Option.map_eq_some_iff.mp h
  have h1 := nm_FL_ok q (List.mem_of_find?_eq_some hq)
  have h2 := List.find?_some hq
  simp only [Bool.and_eq_true, beq_iff_eq] at h2
  obtain ⟨a, b, c, d, e⟩ := q
  obtain ⟨rfl, rfl⟩ := h2
  cases he
  obtain ⟨C, T, N, g1, g2, g3⟩ := h1
  refine ⟨C, T, N, g1, g2, ?_⟩
  cases e with
  | true => exact Or.inl g3
  | false => exact Or.inr g3
theorem nm_FldF_ok {cn idx ci k : Nat} (h : nm_Fld cn idx = some (ci, k)) (hF : nm_FldF cn idx = true) : ∃ C T N, nm_Cl[ci]? = some (C, T, N) ∧ k < N ∧ Cond.fieldLink (nm_Own cn) idx (T k).1 (T k).2.1 (T k).2.2.1 ∈ nm_Ts := by
  unfold nm_Fld at h
  obtain ⟨q, hq, he⟩ := Option.map_eq_some_iff.mp h
  have h1 := nm_FL_ok q (List.mem_of_find?_eq_some hq)
  have h2 := List.find?_some hq
  simp only [Bool.and_eq_true, beq_iff_eq] at h2
  unfold nm_FldF at hF
  rw [hq] at hF
  obtain ⟨a, b, c, d, e⟩ := q
  obtain ⟨rfl, rfl⟩ := h2
  cases he
  obtain ⟨C, T, N, g1, g2, g3⟩ := h1
  refine ⟨C, T, N, g1, g2, ?_⟩
  have : e = true := hF
  subst this
  exact g3
def nm_St : List (Nat × String × String × String) := [(1000000000001, "CardOffice", "POWERS", "[I")]
def nm_SL : List (Nat × Nat × Bool) := [(12, 45, false), (1, 64, false), (10, 126, false)]
def nm_Sta (cn idx : Nat) : Option Nat := (nm_SL.find? (fun q => q.1 == cn && q.2.1 == idx)).map (fun _ => 1000000000001)
def nm_SP (q : Nat × Nat × Bool) : Prop := if q.2.2 = true then Cond.fieldLink (nm_Own q.1) q.2.1 "CardOffice" "POWERS" "[I" ∈ nm_Ts else Cond.fieldLinkNest (nm_Own q.1) q.2.1 "CardOffice" "POWERS" "[I" nm_host ∈ nm_Ns
theorem nm_sf0 : nm_SP (12, 45, false) := nm_n3 171 rfl rfl
theorem nm_sf1 : nm_SP (1, 64, false) := nm_n3 225 rfl rfl
theorem nm_sf2 : nm_SP (10, 126, false) := nm_n3 237 rfl rfl
theorem nm_SL_ok : ∀ q ∈ nm_SL, nm_SP q := List.forall_mem_cons.mpr ⟨nm_sf0, List.forall_mem_cons.mpr ⟨nm_sf1, List.forall_mem_cons.mpr ⟨nm_sf2, fun _ h => absurd h List.not_mem_nil⟩⟩⟩
theorem nm_Sta_ok {cn idx a : Nat} (h : nm_Sta cn idx = some a) : ∃ q ∈ nm_St, q.1 = a ∧ (Cond.fieldLink (nm_Own cn) idx q.2.1 q.2.2.1 q.2.2.2 ∈ nm_Ts ∨ Cond.fieldLinkNest (nm_Own cn) idx q.2.1 q.2.2.1 q.2.2.2 nm_host ∈ nm_Ns) := by
  unfold nm_Sta at h
  obtain ⟨q, hq, he⟩ := Option.map_eq_some_iff.mp h
  have h1 := nm_SL_ok q (List.mem_of_find?_eq_some hq)
  have h2 := List.find?_some hq
  simp only [Bool.and_eq_true, beq_iff_eq] at h2
  obtain ⟨x, b, e⟩ := q
  obtain ⟨rfl, rfl⟩ := h2
  refine ⟨_, List.mem_cons_self, he, ?_⟩
  cases e with
  | true => exact Or.inl h1
  | false => exact Or.inr h1
def nm_Con_l : List (Nat × Nat × Int32) := [(11, 206, 999999)]
def nm_Con (cn idx : Nat) : Option Int32 := (nm_Con_l.find? (fun q => q.1 == cn && q.2.1 == idx)).map (fun q => q.2.2)
theorem nm_Con_0 : Jvm.Cond.constant (nm_Own 11) 206 (999999) ∈ nm_Ts := nm_t5 96 rfl rfl
theorem nm_Con_lok : ∀ q ∈ nm_Con_l, Jvm.Cond.constant (nm_Own q.1) q.2.1 q.2.2 ∈ nm_Ts := List.forall_mem_cons.mpr ⟨nm_Con_0, fun _ h => absurd h List.not_mem_nil⟩
theorem nm_Con_ok {cn idx : Nat} {v : Int32} (h : nm_Con cn idx = some v) : Jvm.Cond.constant (nm_Own cn) idx v ∈ nm_Ts := by
  unfold nm_Con at h
  obtain ⟨q, hq, he⟩ := Option.map_eq_some_iff.mp h
  have h1 := nm_Con_lok q (List.mem_of_find?_eq_some hq)
  have h2 := List.find?_some hq
  simp only [Bool.and_eq_true, beq_iff_eq] at h2
  obtain ⟨x, b, e⟩ := q
  obtain ⟨rfl, rfl⟩ := h2
  cases he
  exact h1
def nm_ConL_l : List (Nat × Nat × Int64) := [(12, 39, -1), (12, 43, 10), (12, 41, 5), (11, 69, 255), (11, 172, 5), (11, 161, 10), (13, 58, 4294967295)]
def nm_ConL (cn idx : Nat) : Option Int64 := (nm_ConL_l.find? (fun q => q.1 == cn && q.2.1 == idx)).map (fun q => q.2.2)
theorem nm_ConL_0 : Jvm.Cond.constantLong (nm_Own 12) 39 (-1) ∈ nm_Ts := nm_t3 166 rfl rfl
theorem nm_ConL_1 : Jvm.Cond.constantLong (nm_Own 12) 43 (10) ∈ nm_Ts := nm_t3 167 rfl rfl
theorem nm_ConL_2 : Jvm.Cond.constantLong (nm_Own 12) 41 (5) ∈ nm_Ts := nm_t3 170 rfl rfl
theorem nm_ConL_3 : Jvm.Cond.constantLong (nm_Own 11) 69 (255) ∈ nm_Ts := nm_t4 149 rfl rfl
theorem nm_ConL_4 : Jvm.Cond.constantLong (nm_Own 11) 172 (5) ∈ nm_Ts := nm_t5 51 rfl rfl
theorem nm_ConL_5 : Jvm.Cond.constantLong (nm_Own 11) 161 (10) ∈ nm_Ts := nm_t5 52 rfl rfl
theorem nm_ConL_6 : Jvm.Cond.constantLong (nm_Own 13) 58 (4294967295) ∈ nm_Ts := nm_t5 141 rfl rfl
theorem nm_ConL_lok : ∀ q ∈ nm_ConL_l, Jvm.Cond.constantLong (nm_Own q.1) q.2.1 q.2.2 ∈ nm_Ts := List.forall_mem_cons.mpr ⟨nm_ConL_0, List.forall_mem_cons.mpr ⟨nm_ConL_1, List.forall_mem_cons.mpr ⟨nm_ConL_2, List.forall_mem_cons.mpr ⟨nm_ConL_3, List.forall_mem_cons.mpr ⟨nm_ConL_4, List.forall_mem_cons.mpr ⟨nm_ConL_5, List.forall_mem_cons.mpr ⟨nm_ConL_6, fun _ h => absurd h List.not_mem_nil⟩⟩⟩⟩⟩⟩⟩
theorem nm_ConL_ok {cn idx : Nat} {v : Int64} (h : nm_ConL cn idx = some v) : Jvm.Cond.constantLong (nm_Own cn) idx v ∈ nm_Ts := by
  unfold nm_ConL at h
  obtain ⟨q, hq, he⟩ := Option.map_eq_some_iff.mp h
  have h1 := nm_ConL_lok q (List.mem_of_find?_eq_some hq)
  have h2 := List.find?_some hq
  simp only [Bool.and_eq_true, beq_iff_eq] at h2
  obtain ⟨x, b, e⟩ := q
  obtain ⟨rfl, rfl⟩ := h2
  cases he
  exact h1
end
section
/-! THE MACHINE OVER PURE CELLS. A world of cells 0 .. n-1 (abstract numbers), laid at real addresses by 'ad'; values hold abstract numbers. -/
abbrev mz_C : Type := (Nat × vp_A) ⊕ (Nat × List Value)
abbrev mz_H : Type := Nat → mz_C
abbrev mz_L : Type := List (Option Value)
abbrev mz_E : Type := Nat → Option (Nat × (Nat → Int32))
abbrev mz_G : Type := Launch × va_G × (Nat → ClassId)
/-- numbers from here on are cells outside of the world that nobody writes -/
def mz_e0 : Nat := 1000000000000
/-- what stands at a number that isn't a cell -/
def mz_d : mz_C := .inr (1000, [])
def mz_u (f : mz_H) (k : Nat) (v : mz_C) (j : Nat) : mz_C := if j = k then v else f j
theorem mz_u_s (f : mz_H) (k : Nat) (v : mz_C) : mz_u f k v k = v := by simp [mz_u]
theorem mz_u_n {f : mz_H} {k j : Nat} {v : mz_C} (h : j ≠ k) : mz_u f k v j = f j := by simp [mz_u, h]
def mz_v (ad : Nat → Nat) (v : Value) : Value := match v with
  | .ref k => .ref (ad k)
  | v => v
theorem mz_v_cat (ad : Nat → Nat) (v : Value) : (mz_v ad v).category = v.category := by cases v <;> rfl
def mz_a (ad : Nat → Nat) (a : vp_A) : vp_A := match a with
  | (n, .inr (.inr (.inr (.inr g)))) => (n, .inr (.inr (.inr (.inr (fun j => (g j).map ad)))))
  | a => a
def mz_e (tA : Nat → ClassId) (ad : Nat → Nat) (c : mz_C) : va_E := match c with
  | .inl q => .inl (tA q.1, mz_a ad q.2)
  | .inr o => .inr (o.1, o.2.map (mz_v ad))
def mz_w (tA : Nat → ClassId) (ad : Nat → Nat) (n : Nat) (f : mz_H) : va_W := (List.range n).map (fun k => (ad k, mz_e tA ad (f k)))
theorem mz_w_get {tA : Nat → ClassId} {ad : Nat → Nat} {n : Nat} {f : mz_H} {k : Nat} (h : k < n) : (mz_w tA ad n f)[k]? = some (ad k, mz_e tA ad (f k)) := by
  simp [mz_w, List.getElem?_map, List.getElem?_range h]
theorem mz_w_len {tA : Nat → ClassId} {ad : Nat → Nat} {n : Nat} {f : mz_H} : (mz_w tA ad n f).length = n := by simp [mz_w]
theorem mz_w_of {tA : Nat → ClassId} {ad : Nat → Nat} {n : Nat} {f : mz_H} {k : Nat} {q : Nat × va_E} (h : (mz_w tA ad n f)[k]? = some q) : k < n ∧ q = (ad k, mz_e tA ad (f k)) := by
  have hk : k < n := by
    have := (List.getElem?_eq_some_iff.mp h).1
    rwa [mz_w_len] at this
  refine ⟨hk, ?_⟩
  rw [mz_w_get hk] at h
  exact (Option.some.inj h).symm
theorem mz_w_set {tA : Nat → ClassId} {ad : Nat → Nat} {n : Nat} {f : mz_H} {k : Nat} (c : mz_C) : (mz_w tA ad n f).set k (ad k, mz_e tA ad c) = mz_w tA ad n (mz_u f k c) := by
  apply List.ext_getElem?
  intro i
  by_cases hi : i < n
  · rw [List.getElem?_set, mz_w_get hi, mz_w_get hi, mz_w_len]
    by_cases hk : k = i
    · subst hk
      simp [mz_u, hi]
    · rw [if_neg hk, mz_u_n (fun h => hk h.symm)]
  · rw [List.getElem?_eq_none (by rw [List.length_set, mz_w_len]; omega), List.getElem?_eq_none (by rw [mz_w_len]; omega)]
def mz_okV (n : Nat) (v : Value) : Prop := match v with
  | .ref k => k < n ∨ mz_e0 ≤ k
  | _ => True
def mz_okC (n : Nat) (c : mz_C) : Prop := match c with
  | .inr o => ∀ v ∈ o.2, mz_okV n v
  | .inl (_, _, .inr (.inr (.inr (.inr g)))) => ∀ j a, g j = some a → a < n
  | .inl _ => True
def mz_okS (n : Nat) (st : List Value) : Prop := ∀ v ∈ st, mz_okV n v
def mz_okL (n : Nat) (l : mz_L) : Prop := ∀ v, some v ∈ l → mz_okV n v
def mz_wf (n : Nat) (f : mz_H) : Prop := n ≤ mz_e0 ∧ (∀ k, mz_okC n (f k)) ∧ ∀ k, n ≤ k → f k = mz_d
theorem mz_okS_tl {n : Nat} {v : Value} {r : List Value} (h : mz_okS n (v :: r)) : mz_okS n r := fun w hw => h w (List.mem_cons_of_mem _ hw)
theorem mz_okS_hd {n : Nat} {v : Value} {r : List Value} (h : mz_okS n (v :: r)) : mz_okV n v := h v List.mem_cons_self
theorem mz_okS_c {n : Nat} {v : Value} {r : List Value} (h : mz_okV n v) (hr : mz_okS n r) : mz_okS n (v :: r) := fun w hw => by
  rcases List.mem_cons.mp hw with rfl | hw
  · exact h
  · exact hr w hw
theorem mz_okV_mono {n m : Nat} (h : n ≤ m) {v : Value} (hv : mz_okV n v) : mz_okV m v := by
  cases v <;> first | trivial | (rcases hv with hv | hv; exact Or.inl (Nat.lt_of_lt_of_le hv h); exact Or.inr hv)
theorem mz_v_eq {n : Nat} {ad ad' : Nat → Nat} (h : ∀ k, k < n ∨ mz_e0 ≤ k → ad' k = ad k) {v : Value} (hv : mz_okV n v) : mz_v ad' v = mz_v ad v := by
  cases v <;> first | rfl | (exact congrArg Value.ref (h _ hv))
theorem mz_e_eq {tA : Nat → ClassId} {n : Nat} {ad ad' : Nat → Nat} (h : ∀ k, k < n ∨ mz_e0 ≤ k → ad' k = ad k) {c : mz_C} (hc : mz_okC n c) : mz_e tA ad' c = mz_e tA ad c := by
  rcases c with ⟨t, m, g | g | g | g | g⟩ | ⟨ci, fs⟩
  · rfl
  · rfl
  · rfl
  · rfl
  · show Sum.inl _ = Sum.inl _
    congr 1
    show (tA t, (m, _)) = (tA t, (m, _))
    congr 6
    funext j
    cases hg : g j with
    | none => rfl
    | some a => exact congrArg some (h a (Or.inl (hc j a hg)))
  · show Sum.inr _ = Sum.inr _
    congr 2
    exact List.map_congr_left fun v hv => mz_v_eq h (hc v hv)
theorem mz_s_eq {n : Nat} {ad ad' : Nat → Nat} (h : ∀ k, k < n ∨ mz_e0 ≤ k → ad' k = ad k) {st : List Value} (hv : mz_okS n st) : st.map (mz_v ad') = st.map (mz_v ad) :=
  List.map_congr_left fun v hm => mz_v_eq h (hv v hm)
theorem mz_wf_lt {n : Nat} {f : mz_H} (h : mz_wf n f) {k : Nat} (hk : f k ≠ mz_d) : k < n := Nat.not_le.mp fun q => hk (h.2.2 k q)
theorem mz_wf_u {n : Nat} {f : mz_H} (h : mz_wf n f) {k : Nat} (hk : f k ≠ mz_d) {c : mz_C} (hc : mz_okC n c) : mz_wf n (mz_u f k c) := by
  have hlt := mz_wf_lt h hk
  refine ⟨h.1, fun j => ?_, fun j hj => ?_⟩
  · by_cases e : j = k
    · rw [e, mz_u_s]; exact hc
    · rw [mz_u_n e]; exact h.2.1 j
  · rw [mz_u_n (by omega)]; exact h.2.2 j hj
/-! the locals -/
def mz_pr (ad : Nat → Nat) (l : mz_L) : List (Nat × Value) := l.zipIdx.filterMap (fun q => q.1.map (fun v => (q.2, mz_v ad v)))
theorem mz_pr_mem {ad : Nat → Nat} {l : mz_L} {i : Nat} {w : Value} : (i, w) ∈ mz_pr ad l ↔ ∃ v, l[i]? = some (some v) ∧ w = mz_v ad v := by
  unfold mz_pr
  rw [List.mem_filterMap]
  constructor
  · rintro ⟨⟨o, j⟩, h1, h2⟩
    rw [List.mem_zipIdx_iff_getElem?] at h1
    cases o with
    | none => cases h2
    | some v =>
      simp only [Option.map_some, Option.some.injEq, Prod.mk.injEq] at h2
      obtain ⟨rfl, rfl⟩ := h2
      exact ⟨v, h1, rfl⟩
  · rintro ⟨v, h1, rfl⟩
    exact ⟨(some v, i), List.mem_zipIdx_iff_getElem?.mpr h1, rfl⟩
def mz_lv (ad : Nat → Nat) (ls : Array Slot) (nL : Nat) (l : mz_L) : Prop := lv_has ls nL (mz_pr ad l)
theorem mz_lv_at {ad : Nat → Nat} {ls : Array Slot} {nL : Nat} {l : mz_L} (h : mz_lv ad ls nL l) {i : Nat} {v : Value} (hi : l[i]? = some (some v)) : ls[i]? = some (.val (mz_v ad v)) :=
  h.2.2 (i, mz_v ad v) (mz_pr_mem.mpr ⟨v, hi, rfl⟩)
/-- a long that stands ahead of place i is gone when i is written -/
def mz_cl (l : mz_L) (i : Nat) : mz_L := match l[i - 1]? with
  | some (some v) => if v.category = 2 then l.set (i - 1) none else l
  | _ => l
theorem mz_cl_get {l : mz_L} {i j : Nat} {v : Value} (h : (mz_cl l i)[j]? = some (some v)) (hj : j ≠ i) : l[j]? = some (some v) ∧ ¬ (j + 1 = i ∧ v.category = 2) := by
  unfold mz_cl at h
  split at h
  · rename_i w hw
    split at h
    · rename_i hc
      rw [List.getElem?_set] at h
      by_cases e : i - 1 = j
      · rw [if_pos e] at h
        split at h <;> simp at h
      · rw [if_neg e] at h
        exact ⟨h, fun q => e (by omega)⟩
    · rename_i hc
      refine ⟨h, fun q => ?_⟩
      have e : i - 1 = j := by omega
      rw [e, h] at hw
      cases hw
      exact hc q.2
  · rename_i hno
    refine ⟨h, fun q => ?_⟩
    have e : i - 1 = j := by omega
    exact hno v (by rw [e]; exact h)
def mz_s1 (l : mz_L) (i : Nat) (v : Value) : mz_L := (mz_cl l i).set i (some v)
def mz_s2 (l : mz_L) (i : Nat) (v : Value) : mz_L := ((mz_cl l i).set i (some v)).set (i + 1) none
theorem mz_lv_s1 {ad : Nat → Nat} {ls ls' : Array Slot} {nL : Nat} {l : mz_L} {i : Nat} {v : Value} (h : lv_has ls' nL ((i, mz_v ad v) :: (mz_pr ad l).filter (fun q => !(q.1 == i) && !(q.1 + 1 == i && q.2.category == 2)))) : mz_lv ad ls' nL (mz_s1 l i v) := by
  refine ⟨h.1, h.2.1, fun q hq => ?_⟩
  obtain ⟨j, w⟩ := q
  obtain ⟨x, h1, rfl⟩ := mz_pr_mem.mp hq
  unfold mz_s1 at h1
  rw [List.getElem?_set] at h1
  by_cases e : i = j
  · rw [if_pos e] at h1
    subst e
    split at h1
    · cases h1
      exact h.2.2 (i, mz_v ad v) List.mem_cons_self
    · cases h1
  · rw [if_neg e] at h1
    obtain ⟨g1, g2⟩ := mz_cl_get h1 (fun q => e q.symm)
    refine h.2.2 (j, mz_v ad x) (List.mem_cons_of_mem _ (List.mem_filter.mpr ⟨mz_pr_mem.mpr ⟨x, g1, rfl⟩, ?_⟩))
    have e1 : (j == i) = false := by simp; exact fun q => e q.symm
    have e2 : (j + 1 == i && (mz_v ad x).category == 2) = false := by
      rw [mz_v_cat]
      simp
      intro q1 q2
      exact g2 ⟨q1, q2⟩
    simp only [e1, e2]
    rfl
theorem mz_lv_s2 {ad : Nat → Nat} {ls ls' : Array Slot} {nL : Nat} {l : mz_L} {i : Nat} {v : Value} (h : lv_has ls' nL ((i, mz_v ad v) :: (mz_pr ad l).filter (fun q => !(q.1 == i) && (!(q.1 == i + 1) && !(q.1 + 1 == i && q.2.category == 2))))) : mz_lv ad ls' nL (mz_s2 l i v) := by
  refine ⟨h.1, h.2.1, fun q hq => ?_⟩
  obtain ⟨j, w⟩ := q
  obtain ⟨x, h1, rfl⟩ := mz_pr_mem.mp hq
  unfold mz_s2 at h1
  rw [List.getElem?_set] at h1
  by_cases e0 : i + 1 = j
  · rw [if_pos e0] at h1
    split at h1 <;> simp at h1
  rw [if_neg e0, List.getElem?_set] at h1
  by_cases e : i = j
  · rw [if_pos e] at h1
    subst e
    split at h1
    · cases h1
      exact h.2.2 (i, mz_v ad v) List.mem_cons_self
    · cases h1
  · rw [if_neg e] at h1
    obtain ⟨g1, g2⟩ := mz_cl_get h1 (fun q => e q.symm)
    refine h.2.2 (j, mz_v ad x) (List.mem_cons_of_mem _ (List.mem_filter.mpr ⟨mz_pr_mem.mpr ⟨x, g1, rfl⟩, ?_⟩))
    have e1 : (j == i) = false := by simp; exact fun q => e q.symm
    have e3 : (j == i + 1) = false := by simp; exact fun q => e0 q.symm
    have e2 : (j + 1 == i && (mz_v ad x).category == 2) = false := by
      rw [mz_v_cat]
      simp
      intro q1 q2
      exact g2 ⟨q1, q2⟩
    simp only [e1, e2, e3]
    rfl
theorem mz_cl_mem {l : mz_L} {i : Nat} {v : Value} (h : some v ∈ mz_cl l i) : some v ∈ l := by
  unfold mz_cl at h
  split at h
  · split at h
    · rcases List.mem_or_eq_of_mem_set h with q | q
      · exact q
      · cases q
    · exact h
  · exact h
theorem mz_okL_s1 {n : Nat} {l : mz_L} {i : Nat} {v : Value} (h : mz_okL n l) (hv : mz_okV n v) : mz_okL n (mz_s1 l i v) := by
  intro w hw
  rcases List.mem_or_eq_of_mem_set hw with q | q
  · exact h w (mz_cl_mem q)
  · cases q; exact hv
theorem mz_okL_s2 {n : Nat} {l : mz_L} {i : Nat} {v : Value} (h : mz_okL n l) (hv : mz_okV n v) : mz_okL n (mz_s2 l i v) := by
  intro w hw
  rcases List.mem_or_eq_of_mem_set hw with q | q
  · rcases List.mem_or_eq_of_mem_set q with q | q
    · exact h w (mz_cl_mem q)
    · cases q; exact hv
  · cases q
theorem mz_okL_get {n : Nat} {l : mz_L} {i : Nat} {v : Value} (h : mz_okL n l) (hi : l[i]? = some (some v)) : mz_okV n v := h v (List.mem_of_getElem? hi)
theorem mz_lv_eq {n : Nat} {ad ad' : Nat → Nat} (h : ∀ k, k < n ∨ mz_e0 ≤ k → ad' k = ad k) {ls : Array Slot} {nL : Nat} {l : mz_L} (hl : mz_okL n l) (hv : mz_lv ad ls nL l) : mz_lv ad' ls nL l := by
  refine ⟨hv.1, hv.2.1, fun q hq => ?_⟩
  obtain ⟨j, w⟩ := q
  obtain ⟨x, h1, rfl⟩ := mz_pr_mem.mp hq
  show ls[j]? = some (.val (mz_v ad' x))
  rw [mz_v_eq h (mz_okL_get hl h1)]
  exact mz_lv_at hv h1
end
section
/-! the machine's context; the judgement mz_X: from this pure state the method comes to its end, and 'post' holds there -/
def mz_ty (tA : Nat → ClassId) : List (ClassId × FieldType) := (List.range nm_Ty.length).map (fun t => (tA t, nm_Ty.getD t .int))
theorem mz_ty_get {tA : Nat → ClassId} {t : Nat} {ty : FieldType} (h : nm_Ty[t]? = some ty) : (mz_ty tA)[t]? = some (tA t, ty) := by
  have hl : t < nm_Ty.length := (List.getElem?_eq_some_iff.mp h).1
  unfold mz_ty
  rw [List.getElem?_map, List.getElem?_range hl]
  simp [List.getD_eq_getElem?_getD, h]
def mz_xt (ad : Nat → Nat) (A : Nat → Prop) (X : mz_E) (s : State) (H : Heap) : Prop :=
  (∀ a N g, X a = some (N, g) → mz_e0 ≤ a ∧ va_T .int (ad a) N (fun j => .int (g j)) A s H) ∧ (∀ q ∈ nm_St, X q.1 ≠ none → va_Z q.2.1 q.2.2.1 q.2.2.2 (.ref (ad q.1)) A s H) ∧ th_lz Bundle.tN "UNASSIGNED_STACK" Bundle.steD A s H ∧ th_lz Bundle.tN "SUPPRESSED_SENTINEL" Bundle.listD A s H
def mz_ok (G : mz_G) (cn : Nat) (ini : Bool) (cc : ByteArray) (nL : Nat) (ret : Option FieldType) (A : Nat → Prop) (p : Program) (s : State) (m : MethodId) (args : Array Value) (meth : Method) (c : Code) : Prop :=
  p.tables.exec = Jvm.exec ∧ c.code = cc ∧ c.maxLocals = nL ∧ meth.sig.returnType = ret ∧ s.vm.findClass (nm_Own cn) = some m.cls ∧ (ini = true → meth.name = "<init>") ∧ (meth.locks = false ∧ (cn ≠ 13 → c.exceptionTable.isEmpty = true) ∧ (cn = 13 → c.exceptionTable.toList.map (fun h => (h.startPc, h.endPc, h.handlerPc, h.catchType)) = nm_Hd cc)) ∧ (∀ w ∈ nm_Ts, w.before args s = true) ∧ (∀ w ∈ nm_Ns, va_Nw w s) ∧ va_K G.2.1 nm_Cl (mz_ty G.2.2) s ∧ ∀ q, s.heap.size ≤ q → A q
def mz_rep (G : mz_G) (X : mz_E) (A : Nat → Prop) (s : State) (ad ad0 : Nat → Nat) (n0 n : Nat) (f : mz_H) (H : Heap) (locs : List Loc) : Prop :=
  va_P G.2.1 nm_Cl (mz_w G.2.2 ad n f) H ∧ va_D A (mz_w G.2.2 ad n f) ∧ va_S A s.heap H locs ∧ mz_wf n f ∧ n0 ≤ n ∧ (∀ k, k < n0 ∨ mz_e0 ≤ k → ad k = ad0 k) ∧ mz_xt ad A X s s.heap
def mz_q (G : mz_G) (A : Nat → Prop) (ad0 : Nat → Nat) (n0 : Nat) (post : Option Value → Nat → mz_H → Prop) : Array Value → State → Outcome → State → Prop := fun _ s oc t =>
  ∃ (v : Option Value) (ad : Nat → Nat) (n : Nat) (f : mz_H), oc = .returned (v.map (mz_v ad)) ∧ post v n f ∧ va_P G.2.1 nm_Cl (mz_w G.2.2 ad n f) t.heap ∧ va_D A (mz_w G.2.2 ad n f) ∧ va_F A s t ∧ mz_wf n f ∧ n0 ≤ n ∧ (∀ k, k < n0 ∨ mz_e0 ≤ k → ad k = ad0 k) ∧ ∀ x, v = some x → mz_okV n x
/-- the end by a throw: of an exception of the class ec, the cells as thr says -/
def mz_th (G : mz_G) (rm : Room) (below : List Frame) (A : Nat → Prop) (ad0 : Nat → Nat) (n0 : Nat) (thr : String → Nat → mz_H → Prop) (s : State) (t : State) : Prop :=
  ∃ (a : Addr) (ec : String) (cell : Cell) (ad : Nat → Nat) (n : Nat) (f : mz_H) (L : List Loc), t.status = .running ∧ Ended t below (.threw a) ∧ thr ec n f ∧ t.heap[a]? = some cell ∧ cell.vm.isStatics = false ∧ cell.vm ≠ .unknown ∧ s.vm.findClass ec = some cell.cls ∧ va_P G.2.1 nm_Cl (mz_w G.2.2 ad n f) t.heap ∧ va_D A (mz_w G.2.2 ad n f) ∧ va_F A s t ∧ mz_wf n f ∧ n0 ≤ n ∧ (∀ k, k < n0 ∨ mz_e0 ≤ k → ad k = ad0 k) ∧ s.WarmedH t.vm ∧ s.sameButNew ({ t with vm := s.vm } : State) L rm.cells rm.slots ∧ ∀ q ∈ L, A q.base
def mz_Z (G : mz_G) (rm : Room) (below : List Frame) (A : Nat → Prop) (ad0 : Nat → Nat) (n0 : Nat) (post : Option Value → Nat → mz_H → Prop) (thr : String → Nat → mz_H → Prop) (args : Array Value) (s : State) : State → Prop := fun t =>
  MQ below (mz_q G A ad0 n0 post) args s rm.cells rm.slots A t ∨ mz_th G rm below A ad0 n0 thr s t
theorem mz_wor {p : Program} {l : Launch} {e : Env} {R : Room} {s : State} {m : MethodId} {args : Array Value} {below : List Frame} {meth : Method} {c : Code} {H : Heap} {locs : List Loc} {cells slots : Nat} {Q Q' : State → Prop} {g : JFrame} (hQ : ∀ t, Q t → Q' t) (h : W p l e R s m args below meth c H locs cells slots Q g) : W p l e R s m args below meth c H locs cells slots Q' g := by
  intro T hT X
  obtain ⟨t, a, b⟩ := h T hT X
  exact ⟨t, a, hQ t b⟩
def mz_X (G : mz_G) (X : mz_E) (cn : Nat) (ini : Bool) (cc : ByteArray) (nL : Nat) (ret : Option FieldType) (rm : Room) (post : Option Value → Nat → mz_H → Prop) (thr : String → Nat → mz_H → Prop) (pc : Nat) (l : mz_L) (st : List Value) (k1 k2 n : Nat) (f : mz_H) : Prop :=
  k1 ≤ rm.cells → k2 ≤ rm.slots → mz_okL n l → mz_okS n st → ∀ (p : Program) (e : Env) (s : State) (m : MethodId) (args : Array Value) (below : List Frame) (meth : Method) (c : Code) (A : Nat → Prop) (H : Heap) (locs : List Loc) (ls : Array Slot) (ad ad0 : Nat → Nat) (n0 : Nat),
    mz_ok G cn ini cc nL ret A p s m args meth c → mz_rep G X A s ad ad0 n0 n f H locs → mz_lv ad ls nL l →
    W p G.1 e rm s m args below meth c H locs k1 k2 (mz_Z G rm below A ad0 n0 post thr args s) (F0 m pc ls (st.map (mz_v ad)))
/-- a jump's goal -/
def mz_t (pc : Nat) (off : Int) : Nat := ((pc : Int) + off).toNat
theorem mz_t_ok {pc : Nat} {off : Int} (h : 0 ≤ (pc : Int) + off) : (pc : Int) + off = (mz_t pc off : Int) := (Int.toNat_of_nonneg h).symm
def mz_fit (ty : FieldType) (v : Value) : Prop := narrow ty v = v ∧ fits ty v = true
theorem mz_fit_v {ty : FieldType} {v : Value} (ad : Nat → Nat) (h : mz_fit ty v) : mz_fit ty (mz_v ad v) := by
  cases v with
  | ref a =>
    obtain ⟨h1, h2⟩ := h
    cases ty <;> first | exact ⟨rfl, h2⟩ | exact ⟨rfl, rfl⟩ | (simp [fits] at h2)
  | _ => exact h
section MZ
variable {G : mz_G} {X : mz_E} {cn : Nat} {ini : Bool} {cc : ByteArray} {nL : Nat} {ret : Option FieldType} {rm : Room} {post : Option Value → Nat → mz_H → Prop} {thr : String → Nat → mz_H → Prop} {pc : Nat} {l : mz_L} {r : List Value} {k1 k2 n : Nat} {f : mz_H}
theorem mz_iconst {i : Int} (hd : decode cc pc = .ok (.iconst i, 1))  (h : mz_X G X cn ini cc nL ret rm post thr (pc + 1) (l) (.int (Int32.ofInt i) :: r) k1 k2 n (f)) : mz_X G X cn ini cc nL ret rm post thr (pc) (l) (r) k1 k2 n (f) := by
  intro hk1 hk2 hol hos p e s m args below meth c A H locs ls ad ad0 n0 ok rep hl
  obtain ⟨hx, hb, hml, hr, hown, hin, hlocks, hts, hns, hK, hA⟩ := id ok
  exact lv_iconst hx hb hd rfl (h hk1 hk2 hol (mz_okS_c trivial hos) p e s m args below meth c A H locs ls ad ad0 n0 ok rep hl)
theorem mz_bipush {i : Int} (hd : decode cc pc = .ok (.bipush i, 2))  (h : mz_X G X cn ini cc nL ret rm post thr (pc + 2) (l) (.int (Int8.ofInt i).toInt32 :: r) k1 k2 n (f)) : mz_X G X cn ini cc nL ret rm post thr (pc) (l) (r) k1 k2 n (f) := by
  intro hk1 hk2 hol hos p e s m args below meth c A H locs ls ad ad0 n0 ok rep hl
  obtain ⟨hx, hb, hml, hr, hown, hin, hlocks, hts, hns, hK, hA⟩ := id ok
  exact lv_bipush hx hb hd rfl (h hk1 hk2 hol (mz_okS_c trivial hos) p e s m args below meth c A H locs ls ad ad0 n0 ok rep hl)
theorem mz_sipush {i : Int} (hd : decode cc pc = .ok (.sipush i, 3))  (h : mz_X G X cn ini cc nL ret rm post thr (pc + 3) (l) (.int (Int16.ofInt i).toInt32 :: r) k1 k2 n (f)) : mz_X G X cn ini cc nL ret rm post thr (pc) (l) (r) k1 k2 n (f) := by
  intro hk1 hk2 hol hos p e s m args below meth c A H locs ls ad ad0 n0 ok rep hl
  obtain ⟨hx, hb, hml, hr, hown, hin, hlocks, hts, hns, hK, hA⟩ := id ok
  exact lv_sipush hx hb hd rfl (h hk1 hk2 hol (mz_okS_c trivial hos) p e s m args below meth c A H locs ls ad ad0 n0 ok rep hl)
theorem mz_lconst {i : Fin 2} (hd : decode cc pc = .ok (.lconst i, 1))  (h : mz_X G X cn ini cc nL ret rm post thr (pc + 1) (l) (.long (Int64.ofNat (i : Nat)) :: r) k1 k2 n (f)) : mz_X G X cn ini cc nL ret rm post thr (pc) (l) (r) k1 k2 n (f) := by
  intro hk1 hk2 hol hos p e s m args below meth c A H locs ls ad ad0 n0 ok rep hl
  obtain ⟨hx, hb, hml, hr, hown, hin, hlocks, hts, hns, hK, hA⟩ := id ok
  exact lv_lconst hx hb hd rfl (h hk1 hk2 hol (mz_okS_c trivial hos) p e s m args below meth c A H locs ls ad ad0 n0 ok rep hl)
theorem mz_null  (hd : decode cc pc = .ok (.aconst_null, 1))  (h : mz_X G X cn ini cc nL ret rm post thr (pc + 1) (l) (.null :: r) k1 k2 n (f)) : mz_X G X cn ini cc nL ret rm post thr (pc) (l) (r) k1 k2 n (f) := by
  intro hk1 hk2 hol hos p e s m args below meth c A H locs ls ad ad0 n0 ok rep hl
  obtain ⟨hx, hb, hml, hr, hown, hin, hlocks, hts, hns, hK, hA⟩ := id ok
  exact lv_null hx hb hd (h hk1 hk2 hol (mz_okS_c trivial hos) p e s m args below meth c A H locs ls ad ad0 n0 ok rep hl)
theorem mz_iadd {x y : Int32} (hd : decode cc pc = .ok (.iadd, 1))  (h : mz_X G X cn ini cc nL ret rm post thr (pc + 1) (l) (.int (x + y) :: r) k1 k2 n (f)) : mz_X G X cn ini cc nL ret rm post thr (pc) (l) (.int y :: .int x :: r) k1 k2 n (f) := by
  intro hk1 hk2 hol hos p e s m args below meth c A H locs ls ad ad0 n0 ok rep hl
  obtain ⟨hx, hb, hml, hr, hown, hin, hlocks, hts, hns, hK, hA⟩ := id ok
  exact lv_iadd hx hb hd (h hk1 hk2 hol (mz_okS_c trivial (mz_okS_tl (mz_okS_tl hos))) p e s m args below meth c A H locs ls ad ad0 n0 ok rep hl)
theorem mz_isub {x y : Int32} (hd : decode cc pc = .ok (.isub, 1))  (h : mz_X G X cn ini cc nL ret rm post thr (pc + 1) (l) (.int (x - y) :: r) k1 k2 n (f)) : mz_X G X cn ini cc nL ret rm post thr (pc) (l) (.int y :: .int x :: r) k1 k2 n (f) := by
  intro hk1 hk2 hol hos p e s m args below meth c A H locs ls ad ad0 n0 ok rep hl
  obtain ⟨hx, hb, hml, hr, hown, hin, hlocks, hts, hns, hK, hA⟩ := id ok
  exact lv_isub hx hb hd (h hk1 hk2 hol (mz_okS_c trivial (mz_okS_tl (mz_okS_tl hos))) p e s m args below meth c A H locs ls ad ad0 n0 ok rep hl)
theorem mz_imul {x y : Int32} (hd : decode cc pc = .ok (.imul, 1))  (h : mz_X G X cn ini cc nL ret rm post thr (pc + 1) (l) (.int (x * y) :: r) k1 k2 n (f)) : mz_X G X cn ini cc nL ret rm post thr (pc) (l) (.int y :: .int x :: r) k1 k2 n (f) := by
  intro hk1 hk2 hol hos p e s m args below meth c A H locs ls ad ad0 n0 ok rep hl
  obtain ⟨hx, hb, hml, hr, hown, hin, hlocks, hts, hns, hK, hA⟩ := id ok
  exact lv_imul hx hb hd (h hk1 hk2 hol (mz_okS_c trivial (mz_okS_tl (mz_okS_tl hos))) p e s m args below meth c A H locs ls ad ad0 n0 ok rep hl)
theorem mz_iand {x y : Int32} (hd : decode cc pc = .ok (.iand, 1))  (h : mz_X G X cn ini cc nL ret rm post thr (pc + 1) (l) (.int (x &&& y) :: r) k1 k2 n (f)) : mz_X G X cn ini cc nL ret rm post thr (pc) (l) (.int y :: .int x :: r) k1 k2 n (f) := by
  intro hk1 hk2 hol hos p e s m args below meth c A H locs ls ad ad0 n0 ok rep hl
  obtain ⟨hx, hb, hml, hr, hown, hin, hlocks, hts, hns, hK, hA⟩ := id ok
  exact lv_iand hx hb hd (h hk1 hk2 hol (mz_okS_c trivial (mz_okS_tl (mz_okS_tl hos))) p e s m args below meth c A H locs ls ad ad0 n0 ok rep hl)
theorem mz_ior {x y : Int32} (hd : decode cc pc = .ok (.ior, 1))  (h : mz_X G X cn ini cc nL ret rm post thr (pc + 1) (l) (.int (x ||| y) :: r) k1 k2 n (f)) : mz_X G X cn ini cc nL ret rm post thr (pc) (l) (.int y :: .int x :: r) k1 k2 n (f) := by
  intro hk1 hk2 hol hos p e s m args below meth c A H locs ls ad ad0 n0 ok rep hl
  obtain ⟨hx, hb, hml, hr, hown, hin, hlocks, hts, hns, hK, hA⟩ := id ok
  exact lv_ior hx hb hd (h hk1 hk2 hol (mz_okS_c trivial (mz_okS_tl (mz_okS_tl hos))) p e s m args below meth c A H locs ls ad ad0 n0 ok rep hl)
theorem mz_ixor {x y : Int32} (hd : decode cc pc = .ok (.ixor, 1))  (h : mz_X G X cn ini cc nL ret rm post thr (pc + 1) (l) (.int (x ^^^ y) :: r) k1 k2 n (f)) : mz_X G X cn ini cc nL ret rm post thr (pc) (l) (.int y :: .int x :: r) k1 k2 n (f) := by
  intro hk1 hk2 hol hos p e s m args below meth c A H locs ls ad ad0 n0 ok rep hl
  obtain ⟨hx, hb, hml, hr, hown, hin, hlocks, hts, hns, hK, hA⟩ := id ok
  exact lv_ixor hx hb hd (h hk1 hk2 hol (mz_okS_c trivial (mz_okS_tl (mz_okS_tl hos))) p e s m args below meth c A H locs ls ad ad0 n0 ok rep hl)
theorem mz_ishl {x y : Int32} (hd : decode cc pc = .ok (.ishl, 1))  (h : mz_X G X cn ini cc nL ret rm post thr (pc + 1) (l) (.int (x <<< (y &&& 31)) :: r) k1 k2 n (f)) : mz_X G X cn ini cc nL ret rm post thr (pc) (l) (.int y :: .int x :: r) k1 k2 n (f) := by
  intro hk1 hk2 hol hos p e s m args below meth c A H locs ls ad ad0 n0 ok rep hl
  obtain ⟨hx, hb, hml, hr, hown, hin, hlocks, hts, hns, hK, hA⟩ := id ok
  exact lv_ishl hx hb hd (h hk1 hk2 hol (mz_okS_c trivial (mz_okS_tl (mz_okS_tl hos))) p e s m args below meth c A H locs ls ad ad0 n0 ok rep hl)
theorem mz_ishr {x y : Int32} (hd : decode cc pc = .ok (.ishr, 1))  (h : mz_X G X cn ini cc nL ret rm post thr (pc + 1) (l) (.int (x >>> (y &&& 31)) :: r) k1 k2 n (f)) : mz_X G X cn ini cc nL ret rm post thr (pc) (l) (.int y :: .int x :: r) k1 k2 n (f) := by
  intro hk1 hk2 hol hos p e s m args below meth c A H locs ls ad ad0 n0 ok rep hl
  obtain ⟨hx, hb, hml, hr, hown, hin, hlocks, hts, hns, hK, hA⟩ := id ok
  exact lv_ishr hx hb hd (h hk1 hk2 hol (mz_okS_c trivial (mz_okS_tl (mz_okS_tl hos))) p e s m args below meth c A H locs ls ad ad0 n0 ok rep hl)
theorem mz_idiv {x y : Int32} (hd : decode cc pc = .ok (.idiv, 1)) (hs : ¬ y = 0) (h : mz_X G X cn ini cc nL ret rm post thr (pc + 1) (l) (.int (x / y) :: r) k1 k2 n (f)) : mz_X G X cn ini cc nL ret rm post thr (pc) (l) (.int y :: .int x :: r) k1 k2 n (f) := by
  intro hk1 hk2 hol hos p e s m args below meth c A H locs ls ad ad0 n0 ok rep hl
  obtain ⟨hx, hb, hml, hr, hown, hin, hlocks, hts, hns, hK, hA⟩ := id ok
  exact lv_idiv hx hb hd hs (h hk1 hk2 hol (mz_okS_c trivial (mz_okS_tl (mz_okS_tl hos))) p e s m args below meth c A H locs ls ad ad0 n0 ok rep hl)
theorem mz_irem {x y : Int32} (hd : decode cc pc = .ok (.irem, 1)) (hs : ¬ y = 0) (h : mz_X G X cn ini cc nL ret rm post thr (pc + 1) (l) (.int (x - x / y * y) :: r) k1 k2 n (f)) : mz_X G X cn ini cc nL ret rm post thr (pc) (l) (.int y :: .int x :: r) k1 k2 n (f) := by
  intro hk1 hk2 hol hos p e s m args below meth c A H locs ls ad ad0 n0 ok rep hl
  obtain ⟨hx, hb, hml, hr, hown, hin, hlocks, hts, hns, hK, hA⟩ := id ok
  exact lv_irem hx hb hd hs (h hk1 hk2 hol (mz_okS_c trivial (mz_okS_tl (mz_okS_tl hos))) p e s m args below meth c A H locs ls ad ad0 n0 ok rep hl)
theorem mz_ladd {x y : Int64} (hd : decode cc pc = .ok (.ladd, 1))  (h : mz_X G X cn ini cc nL ret rm post thr (pc + 1) (l) (.long (x + y) :: r) k1 k2 n (f)) : mz_X G X cn ini cc nL ret rm post thr (pc) (l) (.long y :: .long x :: r) k1 k2 n (f) := by
  intro hk1 hk2 hol hos p e s m args below meth c A H locs ls ad ad0 n0 ok rep hl
  obtain ⟨hx, hb, hml, hr, hown, hin, hlocks, hts, hns, hK, hA⟩ := id ok
  exact lv_ladd hx hb hd (h hk1 hk2 hol (mz_okS_c trivial (mz_okS_tl (mz_okS_tl hos))) p e s m args below meth c A H locs ls ad ad0 n0 ok rep hl)
theorem mz_lsub {x y : Int64} (hd : decode cc pc = .ok (.lsub, 1))  (h : mz_X G X cn ini cc nL ret rm post thr (pc + 1) (l) (.long (x - y) :: r) k1 k2 n (f)) : mz_X G X cn ini cc nL ret rm post thr (pc) (l) (.long y :: .long x :: r) k1 k2 n (f) := by
  intro hk1 hk2 hol hos p e s m args below meth c A H locs ls ad ad0 n0 ok rep hl
  obtain ⟨hx, hb, hml, hr, hown, hin, hlocks, hts, hns, hK, hA⟩ := id ok
  exact lv_lsub hx hb hd (h hk1 hk2 hol (mz_okS_c trivial (mz_okS_tl (mz_okS_tl hos))) p e s m args below meth c A H locs ls ad ad0 n0 ok rep hl)
theorem mz_lmul {x y : Int64} (hd : decode cc pc = .ok (.lmul, 1))  (h : mz_X G X cn ini cc nL ret rm post thr (pc + 1) (l) (.long (x * y) :: r) k1 k2 n (f)) : mz_X G X cn ini cc nL ret rm post thr (pc) (l) (.long y :: .long x :: r) k1 k2 n (f) := by
  intro hk1 hk2 hol hos p e s m args below meth c A H locs ls ad ad0 n0 ok rep hl
  obtain ⟨hx, hb, hml, hr, hown, hin, hlocks, hts, hns, hK, hA⟩ := id ok
  exact lv_lmul hx hb hd (h hk1 hk2 hol (mz_okS_c trivial (mz_okS_tl (mz_okS_tl hos))) p e s m args below meth c A H locs ls ad ad0 n0 ok rep hl)
theorem mz_land {x y : Int64} (hd : decode cc pc = .ok (.land, 1))  (h : mz_X G X cn ini cc nL ret rm post thr (pc + 1) (l) (.long (x &&& y) :: r) k1 k2 n (f)) : mz_X G X cn ini cc nL ret rm post thr (pc) (l) (.long y :: .long x :: r) k1 k2 n (f) := by
  intro hk1 hk2 hol hos p e s m args below meth c A H locs ls ad ad0 n0 ok rep hl
  obtain ⟨hx, hb, hml, hr, hown, hin, hlocks, hts, hns, hK, hA⟩ := id ok
  exact lv_land hx hb hd (h hk1 hk2 hol (mz_okS_c trivial (mz_okS_tl (mz_okS_tl hos))) p e s m args below meth c A H locs ls ad ad0 n0 ok rep hl)
theorem mz_lor {x y : Int64} (hd : decode cc pc = .ok (.lor, 1))  (h : mz_X G X cn ini cc nL ret rm post thr (pc + 1) (l) (.long (x ||| y) :: r) k1 k2 n (f)) : mz_X G X cn ini cc nL ret rm post thr (pc) (l) (.long y :: .long x :: r) k1 k2 n (f) := by
  intro hk1 hk2 hol hos p e s m args below meth c A H locs ls ad ad0 n0 ok rep hl
  obtain ⟨hx, hb, hml, hr, hown, hin, hlocks, hts, hns, hK, hA⟩ := id ok
  exact lv_lor hx hb hd (h hk1 hk2 hol (mz_okS_c trivial (mz_okS_tl (mz_okS_tl hos))) p e s m args below meth c A H locs ls ad ad0 n0 ok rep hl)
theorem mz_lxor {x y : Int64} (hd : decode cc pc = .ok (.lxor, 1))  (h : mz_X G X cn ini cc nL ret rm post thr (pc + 1) (l) (.long (x ^^^ y) :: r) k1 k2 n (f)) : mz_X G X cn ini cc nL ret rm post thr (pc) (l) (.long y :: .long x :: r) k1 k2 n (f) := by
  intro hk1 hk2 hol hos p e s m args below meth c A H locs ls ad ad0 n0 ok rep hl
  obtain ⟨hx, hb, hml, hr, hown, hin, hlocks, hts, hns, hK, hA⟩ := id ok
  exact lv_lxor hx hb hd (h hk1 hk2 hol (mz_okS_c trivial (mz_okS_tl (mz_okS_tl hos))) p e s m args below meth c A H locs ls ad ad0 n0 ok rep hl)
theorem mz_ldiv {x y : Int64} (hd : decode cc pc = .ok (.ldiv, 1)) (hs : ¬ y = 0) (h : mz_X G X cn ini cc nL ret rm post thr (pc + 1) (l) (.long (x / y) :: r) k1 k2 n (f)) : mz_X G X cn ini cc nL ret rm post thr (pc) (l) (.long y :: .long x :: r) k1 k2 n (f) := by
  intro hk1 hk2 hol hos p e s m args below meth c A H locs ls ad ad0 n0 ok rep hl
  obtain ⟨hx, hb, hml, hr, hown, hin, hlocks, hts, hns, hK, hA⟩ := id ok
  exact lv_ldiv hx hb hd hs (h hk1 hk2 hol (mz_okS_c trivial (mz_okS_tl (mz_okS_tl hos))) p e s m args below meth c A H locs ls ad ad0 n0 ok rep hl)
theorem mz_lrem {x y : Int64} (hd : decode cc pc = .ok (.lrem, 1)) (hs : ¬ y = 0) (h : mz_X G X cn ini cc nL ret rm post thr (pc + 1) (l) (.long (x - x / y * y) :: r) k1 k2 n (f)) : mz_X G X cn ini cc nL ret rm post thr (pc) (l) (.long y :: .long x :: r) k1 k2 n (f) := by
  intro hk1 hk2 hol hos p e s m args below meth c A H locs ls ad ad0 n0 ok rep hl
  obtain ⟨hx, hb, hml, hr, hown, hin, hlocks, hts, hns, hK, hA⟩ := id ok
  exact lv_lrem hx hb hd hs (h hk1 hk2 hol (mz_okS_c trivial (mz_okS_tl (mz_okS_tl hos))) p e s m args below meth c A H locs ls ad ad0 n0 ok rep hl)
theorem mz_lcmp {x y : Int64} (hd : decode cc pc = .ok (.lcmp, 1))  (h : mz_X G X cn ini cc nL ret rm post thr (pc + 1) (l) (.int (lg_cmp x y) :: r) k1 k2 n (f)) : mz_X G X cn ini cc nL ret rm post thr (pc) (l) (.long y :: .long x :: r) k1 k2 n (f) := by
  intro hk1 hk2 hol hos p e s m args below meth c A H locs ls ad ad0 n0 ok rep hl
  obtain ⟨hx, hb, hml, hr, hown, hin, hlocks, hts, hns, hK, hA⟩ := id ok
  exact W.lcmp hx hb hd (h hk1 hk2 hol (mz_okS_c trivial (mz_okS_tl (mz_okS_tl hos))) p e s m args below meth c A H locs ls ad ad0 n0 ok rep hl)
theorem mz_lshl {x : Int64} {y : Int32} (hd : decode cc pc = .ok (.lshl, 1))  (h : mz_X G X cn ini cc nL ret rm post thr (pc + 1) (l) (.long (x <<< (y.toInt64 &&& 63)) :: r) k1 k2 n (f)) : mz_X G X cn ini cc nL ret rm post thr (pc) (l) (.int y :: .long x :: r) k1 k2 n (f) := by
  intro hk1 hk2 hol hos p e s m args below meth c A H locs ls ad ad0 n0 ok rep hl
  obtain ⟨hx, hb, hml, hr, hown, hin, hlocks, hts, hns, hK, hA⟩ := id ok
  exact lv_lshl hx hb hd rfl (h hk1 hk2 hol (mz_okS_c trivial (mz_okS_tl (mz_okS_tl hos))) p e s m args below meth c A H locs ls ad ad0 n0 ok rep hl)
theorem mz_lshr {x : Int64} {y : Int32} (hd : decode cc pc = .ok (.lshr, 1))  (h : mz_X G X cn ini cc nL ret rm post thr (pc + 1) (l) (.long (x >>> (y.toInt64 &&& 63)) :: r) k1 k2 n (f)) : mz_X G X cn ini cc nL ret rm post thr (pc) (l) (.int y :: .long x :: r) k1 k2 n (f) := by
  intro hk1 hk2 hol hos p e s m args below meth c A H locs ls ad ad0 n0 ok rep hl
  obtain ⟨hx, hb, hml, hr, hown, hin, hlocks, hts, hns, hK, hA⟩ := id ok
  exact lv_lshr hx hb hd rfl (h hk1 hk2 hol (mz_okS_c trivial (mz_okS_tl (mz_okS_tl hos))) p e s m args below meth c A H locs ls ad ad0 n0 ok rep hl)
theorem mz_lushr {x : Int64} {y : Int32} (hd : decode cc pc = .ok (.lushr, 1))  (h : mz_X G X cn ini cc nL ret rm post thr (pc + 1) (l) (.long (x.toUInt64 >>> (y.toInt64.toUInt64 &&& Int64.toUInt64 63)).toInt64 :: r) k1 k2 n (f)) : mz_X G X cn ini cc nL ret rm post thr (pc) (l) (.int y :: .long x :: r) k1 k2 n (f) := by
  intro hk1 hk2 hol hos p e s m args below meth c A H locs ls ad ad0 n0 ok rep hl
  obtain ⟨hx, hb, hml, hr, hown, hin, hlocks, hts, hns, hK, hA⟩ := id ok
  exact lv_lushr hx hb hd rfl (h hk1 hk2 hol (mz_okS_c trivial (mz_okS_tl (mz_okS_tl hos))) p e s m args below meth c A H locs ls ad ad0 n0 ok rep hl)
theorem mz_ineg {x : Int32} (hd : decode cc pc = .ok (.ineg, 1))  (h : mz_X G X cn ini cc nL ret rm post thr (pc + 1) (l) (.int (-x) :: r) k1 k2 n (f)) : mz_X G X cn ini cc nL ret rm post thr (pc) (l) (.int x :: r) k1 k2 n (f) := by
  intro hk1 hk2 hol hos p e s m args below meth c A H locs ls ad ad0 n0 ok rep hl
  obtain ⟨hx, hb, hml, hr, hown, hin, hlocks, hts, hns, hK, hA⟩ := id ok
  exact lv_ineg hx hb hd (h hk1 hk2 hol (mz_okS_c trivial (mz_okS_tl hos)) p e s m args below meth c A H locs ls ad ad0 n0 ok rep hl)
theorem mz_i2l {x : Int32} (hd : decode cc pc = .ok (.i2l, 1))  (h : mz_X G X cn ini cc nL ret rm post thr (pc + 1) (l) (.long x.toInt64 :: r) k1 k2 n (f)) : mz_X G X cn ini cc nL ret rm post thr (pc) (l) (.int x :: r) k1 k2 n (f) := by
  intro hk1 hk2 hol hos p e s m args below meth c A H locs ls ad ad0 n0 ok rep hl
  obtain ⟨hx, hb, hml, hr, hown, hin, hlocks, hts, hns, hK, hA⟩ := id ok
  exact lv_i2l hx hb hd rfl (h hk1 hk2 hol (mz_okS_c trivial (mz_okS_tl hos)) p e s m args below meth c A H locs ls ad ad0 n0 ok rep hl)
theorem mz_l2i {x : Int64} (hd : decode cc pc = .ok (.l2i, 1))  (h : mz_X G X cn ini cc nL ret rm post thr (pc + 1) (l) (.int x.toInt32 :: r) k1 k2 n (f)) : mz_X G X cn ini cc nL ret rm post thr (pc) (l) (.long x :: r) k1 k2 n (f) := by
  intro hk1 hk2 hol hos p e s m args below meth c A H locs ls ad ad0 n0 ok rep hl
  obtain ⟨hx, hb, hml, hr, hown, hin, hlocks, hts, hns, hK, hA⟩ := id ok
  exact lv_l2i hx hb hd rfl (h hk1 hk2 hol (mz_okS_c trivial (mz_okS_tl hos)) p e s m args below meth c A H locs ls ad ad0 n0 ok rep hl)
theorem mz_i2b {x : Int32} (hd : decode cc pc = .ok (.i2b, 1))  (h : mz_X G X cn ini cc nL ret rm post thr (pc + 1) (l) (.int x.toInt8.toInt32 :: r) k1 k2 n (f)) : mz_X G X cn ini cc nL ret rm post thr (pc) (l) (.int x :: r) k1 k2 n (f) := by
  intro hk1 hk2 hol hos p e s m args below meth c A H locs ls ad ad0 n0 ok rep hl
  obtain ⟨hx, hb, hml, hr, hown, hin, hlocks, hts, hns, hK, hA⟩ := id ok
  exact lv_i2b hx hb hd rfl (h hk1 hk2 hol (mz_okS_c trivial (mz_okS_tl hos)) p e s m args below meth c A H locs ls ad ad0 n0 ok rep hl)
theorem mz_i2s {x : Int32} (hd : decode cc pc = .ok (.i2s, 1))  (h : mz_X G X cn ini cc nL ret rm post thr (pc + 1) (l) (.int x.toInt16.toInt32 :: r) k1 k2 n (f)) : mz_X G X cn ini cc nL ret rm post thr (pc) (l) (.int x :: r) k1 k2 n (f) := by
  intro hk1 hk2 hol hos p e s m args below meth c A H locs ls ad ad0 n0 ok rep hl
  obtain ⟨hx, hb, hml, hr, hown, hin, hlocks, hts, hns, hK, hA⟩ := id ok
  exact lv_i2s hx hb hd rfl (h hk1 hk2 hol (mz_okS_c trivial (mz_okS_tl hos)) p e s m args below meth c A H locs ls ad ad0 n0 ok rep hl)
theorem mz_dup {v : Value} (hd : decode cc pc = .ok (.dup, 1)) (hs : v.category = 1) (h : mz_X G X cn ini cc nL ret rm post thr (pc + 1) (l) (v :: v :: r) k1 k2 n (f)) : mz_X G X cn ini cc nL ret rm post thr (pc) (l) (v :: r) k1 k2 n (f) := by
  intro hk1 hk2 hol hos p e s m args below meth c A H locs ls ad ad0 n0 ok rep hl
  obtain ⟨hx, hb, hml, hr, hown, hin, hlocks, hts, hns, hK, hA⟩ := id ok
  exact lv_dup hx hb hd (by rw [mz_v_cat]; exact hs) (h hk1 hk2 hol (mz_okS_c (mz_okS_hd hos) hos) p e s m args below meth c A H locs ls ad ad0 n0 ok rep hl)
theorem mz_pop {v : Value} (hd : decode cc pc = .ok (.pop, 1)) (hs : v.category = 1) (h : mz_X G X cn ini cc nL ret rm post thr (pc + 1) (l) (r) k1 k2 n (f)) : mz_X G X cn ini cc nL ret rm post thr (pc) (l) (v :: r) k1 k2 n (f) := by
  intro hk1 hk2 hol hos p e s m args below meth c A H locs ls ad ad0 n0 ok rep hl
  obtain ⟨hx, hb, hml, hr, hown, hin, hlocks, hts, hns, hK, hA⟩ := id ok
  exact lv_pop (va := mz_v ad v) hx hb hd (by rw [mz_v_cat]; exact hs) (h hk1 hk2 hol (mz_okS_tl hos) p e s m args below meth c A H locs ls ad ad0 n0 ok rep hl)
theorem mz_dup_x1 {v w : Value} (hd : decode cc pc = .ok (.dup_x1, 1)) (hs : v.category = 1) (hs2 : w.category = 1) (h : mz_X G X cn ini cc nL ret rm post thr (pc + 1) (l) (v :: w :: v :: r) k1 k2 n (f)) : mz_X G X cn ini cc nL ret rm post thr (pc) (l) (v :: w :: r) k1 k2 n (f) := by
  intro hk1 hk2 hol hos p e s m args below meth c A H locs ls ad ad0 n0 ok rep hl
  obtain ⟨hx, hb, hml, hr, hown, hin, hlocks, hts, hns, hK, hA⟩ := id ok
  exact lv_dup_x1 hx hb hd (by rw [mz_v_cat]; exact hs) (by rw [mz_v_cat]; exact hs2) (h hk1 hk2 hol (mz_okS_c (mz_okS_hd hos) (mz_okS_c (mz_okS_hd (mz_okS_tl hos)) (mz_okS_c (mz_okS_hd hos) (mz_okS_tl (mz_okS_tl hos))))) p e s m args below meth c A H locs ls ad ad0 n0 ok rep hl)
theorem mz_dup2 {v w : Value} (hd : decode cc pc = .ok (.dup2, 1)) (hs : v.category = 1) (hs2 : w.category = 1) (h : mz_X G X cn ini cc nL ret rm post thr (pc + 1) (l) (v :: w :: v :: w :: r) k1 k2 n (f)) : mz_X G X cn ini cc nL ret rm post thr (pc) (l) (v :: w :: r) k1 k2 n (f) := by
  intro hk1 hk2 hol hos p e s m args below meth c A H locs ls ad ad0 n0 ok rep hl
  obtain ⟨hx, hb, hml, hr, hown, hin, hlocks, hts, hns, hK, hA⟩ := id ok
  exact lv_dup2_11 hx hb hd (by rw [mz_v_cat]; exact hs) (by rw [mz_v_cat]; exact hs2) (h hk1 hk2 hol (mz_okS_c (mz_okS_hd hos) (mz_okS_c (mz_okS_hd (mz_okS_tl hos)) hos)) p e s m args below meth c A H locs ls ad ad0 n0 ok rep hl)
theorem mz_iload {i : Nat} {x : Int32} (hd : decode cc pc = .ok (.iload i, 2)) (hi : l[i]? = some (some (.int x))) (h : mz_X G X cn ini cc nL ret rm post thr (pc + 2) (l) (.int x :: r) k1 k2 n (f)) : mz_X G X cn ini cc nL ret rm post thr (pc) (l) (r) k1 k2 n (f) := by
  intro hk1 hk2 hol hos p e s m args below meth c A H locs ls ad ad0 n0 ok rep hl
  obtain ⟨hx, hb, hml, hr, hown, hin, hlocks, hts, hns, hK, hA⟩ := id ok
  exact lv_iload hx hb hd (mz_lv_at hl hi) (h hk1 hk2 hol (mz_okS_c trivial hos) p e s m args below meth c A H locs ls ad ad0 n0 ok rep hl)
theorem mz_iload_n {i : Fin 4} {x : Int32} (hd : decode cc pc = .ok (.iload_n i, 1)) (hi : l[i.val]? = some (some (.int x))) (h : mz_X G X cn ini cc nL ret rm post thr (pc + 1) (l) (.int x :: r) k1 k2 n (f)) : mz_X G X cn ini cc nL ret rm post thr (pc) (l) (r) k1 k2 n (f) := by
  intro hk1 hk2 hol hos p e s m args below meth c A H locs ls ad ad0 n0 ok rep hl
  obtain ⟨hx, hb, hml, hr, hown, hin, hlocks, hts, hns, hK, hA⟩ := id ok
  exact lv_iload_n hx hb hd rfl (mz_lv_at hl hi) (h hk1 hk2 hol (mz_okS_c trivial hos) p e s m args below meth c A H locs ls ad ad0 n0 ok rep hl)
theorem mz_lload {i : Nat} {x : Int64} (hd : decode cc pc = .ok (.lload i, 2)) (hi : l[i]? = some (some (.long x))) (h : mz_X G X cn ini cc nL ret rm post thr (pc + 2) (l) (.long x :: r) k1 k2 n (f)) : mz_X G X cn ini cc nL ret rm post thr (pc) (l) (r) k1 k2 n (f) := by
  intro hk1 hk2 hol hos p e s m args below meth c A H locs ls ad ad0 n0 ok rep hl
  obtain ⟨hx, hb, hml, hr, hown, hin, hlocks, hts, hns, hK, hA⟩ := id ok
  exact lv_lload hx hb hd (mz_lv_at hl hi) (h hk1 hk2 hol (mz_okS_c trivial hos) p e s m args below meth c A H locs ls ad ad0 n0 ok rep hl)
theorem mz_lload_n {i : Fin 4} {x : Int64} (hd : decode cc pc = .ok (.lload_n i, 1)) (hi : l[i.val]? = some (some (.long x))) (h : mz_X G X cn ini cc nL ret rm post thr (pc + 1) (l) (.long x :: r) k1 k2 n (f)) : mz_X G X cn ini cc nL ret rm post thr (pc) (l) (r) k1 k2 n (f) := by
  intro hk1 hk2 hol hos p e s m args below meth c A H locs ls ad ad0 n0 ok rep hl
  obtain ⟨hx, hb, hml, hr, hown, hin, hlocks, hts, hns, hK, hA⟩ := id ok
  exact lv_lload_n hx hb hd rfl (mz_lv_at hl hi) (h hk1 hk2 hol (mz_okS_c trivial hos) p e s m args below meth c A H locs ls ad ad0 n0 ok rep hl)
theorem mz_aload {i : Nat} {x : Nat} (hd : decode cc pc = .ok (.aload i, 2)) (hi : l[i]? = some (some (.ref x))) (h : mz_X G X cn ini cc nL ret rm post thr (pc + 2) (l) (.ref x :: r) k1 k2 n (f)) : mz_X G X cn ini cc nL ret rm post thr (pc) (l) (r) k1 k2 n (f) := by
  intro hk1 hk2 hol hos p e s m args below meth c A H locs ls ad ad0 n0 ok rep hl
  obtain ⟨hx, hb, hml, hr, hown, hin, hlocks, hts, hns, hK, hA⟩ := id ok
  exact lv_aload hx hb hd (mz_lv_at hl hi) (h hk1 hk2 hol (mz_okS_c (mz_okL_get hol hi) hos) p e s m args below meth c A H locs ls ad ad0 n0 ok rep hl)
theorem mz_aload_n {i : Fin 4} {x : Nat} (hd : decode cc pc = .ok (.aload_n i, 1)) (hi : l[i.val]? = some (some (.ref x))) (h : mz_X G X cn ini cc nL ret rm post thr (pc + 1) (l) (.ref x :: r) k1 k2 n (f)) : mz_X G X cn ini cc nL ret rm post thr (pc) (l) (r) k1 k2 n (f) := by
  intro hk1 hk2 hol hos p e s m args below meth c A H locs ls ad ad0 n0 ok rep hl
  obtain ⟨hx, hb, hml, hr, hown, hin, hlocks, hts, hns, hK, hA⟩ := id ok
  exact lv_aload_n hx hb hd rfl (mz_lv_at hl hi) (h hk1 hk2 hol (mz_okS_c (mz_okL_get hol hi) hos) p e s m args below meth c A H locs ls ad ad0 n0 ok rep hl)
theorem mz_aloadN {i : Nat}  (hd : decode cc pc = .ok (.aload i, 2)) (hi : l[i]? = some (some (.null))) (h : mz_X G X cn ini cc nL ret rm post thr (pc + 2) (l) (.null :: r) k1 k2 n (f)) : mz_X G X cn ini cc nL ret rm post thr (pc) (l) (r) k1 k2 n (f) := by
  intro hk1 hk2 hol hos p e s m args below meth c A H locs ls ad ad0 n0 ok rep hl
  obtain ⟨hx, hb, hml, hr, hown, hin, hlocks, hts, hns, hK, hA⟩ := id ok
  exact lv_aloadN hx hb hd (mz_lv_at hl hi) (h hk1 hk2 hol (mz_okS_c (mz_okL_get hol hi) hos) p e s m args below meth c A H locs ls ad ad0 n0 ok rep hl)
theorem mz_aload_nN {i : Fin 4}  (hd : decode cc pc = .ok (.aload_n i, 1)) (hi : l[i.val]? = some (some (.null))) (h : mz_X G X cn ini cc nL ret rm post thr (pc + 1) (l) (.null :: r) k1 k2 n (f)) : mz_X G X cn ini cc nL ret rm post thr (pc) (l) (r) k1 k2 n (f) := by
  intro hk1 hk2 hol hos p e s m args below meth c A H locs ls ad ad0 n0 ok rep hl
  obtain ⟨hx, hb, hml, hr, hown, hin, hlocks, hts, hns, hK, hA⟩ := id ok
  exact lv_aload_nN hx hb hd rfl (mz_lv_at hl hi) (h hk1 hk2 hol (mz_okS_c (mz_okL_get hol hi) hos) p e s m args below meth c A H locs ls ad ad0 n0 ok rep hl)
theorem mz_istore {i : Nat} {x : Int32} (hd : decode cc pc = .ok (.istore i, 2)) (hn : i < nL) (h : mz_X G X cn ini cc nL ret rm post thr (pc + 2) (mz_s1 l i (.int x)) (r) k1 k2 n (f)) : mz_X G X cn ini cc nL ret rm post thr (pc) (l) (.int x :: r) k1 k2 n (f) := by
  intro hk1 hk2 hol hos p e s m args below meth c A H locs ls ad ad0 n0 ok rep hl
  obtain ⟨hx, hb, hml, hr, hown, hin, hlocks, hts, hns, hK, hA⟩ := id ok
  refine lv_istore hx hb hd hl hn rfl (fun ls' hl' => ?_)
  exact (h hk1 hk2 (mz_okL_s1 hol (mz_okS_hd hos)) (mz_okS_tl hos) p e s m args below meth c A H locs ls' ad ad0 n0 ok rep (mz_lv_s1 (ls := ls) (v := .int x) hl'))
theorem mz_istore_n {i : Fin 4} {x : Int32} (hd : decode cc pc = .ok (.istore_n i, 1)) (hn : i.val < nL) (h : mz_X G X cn ini cc nL ret rm post thr (pc + 1) (mz_s1 l i.val (.int x)) (r) k1 k2 n (f)) : mz_X G X cn ini cc nL ret rm post thr (pc) (l) (.int x :: r) k1 k2 n (f) := by
  intro hk1 hk2 hol hos p e s m args below meth c A H locs ls ad ad0 n0 ok rep hl
  obtain ⟨hx, hb, hml, hr, hown, hin, hlocks, hts, hns, hK, hA⟩ := id ok
  refine lv_istore_n hx hb hd rfl hl hn rfl (fun ls' hl' => ?_)
  exact (h hk1 hk2 (mz_okL_s1 hol (mz_okS_hd hos)) (mz_okS_tl hos) p e s m args below meth c A H locs ls' ad ad0 n0 ok rep (mz_lv_s1 (ls := ls) (v := .int x) hl'))
theorem mz_lstore {i : Nat} {x : Int64} (hd : decode cc pc = .ok (.lstore i, 2)) (hn : i + 1 < nL) (h : mz_X G X cn ini cc nL ret rm post thr (pc + 2) (mz_s2 l i (.long x)) (r) k1 k2 n (f)) : mz_X G X cn ini cc nL ret rm post thr (pc) (l) (.long x :: r) k1 k2 n (f) := by
  intro hk1 hk2 hol hos p e s m args below meth c A H locs ls ad ad0 n0 ok rep hl
  obtain ⟨hx, hb, hml, hr, hown, hin, hlocks, hts, hns, hK, hA⟩ := id ok
  refine lv_lstore hx hb hd hl hn rfl (fun ls' hl' => ?_)
  exact (h hk1 hk2 (mz_okL_s2 hol (mz_okS_hd hos)) (mz_okS_tl hos) p e s m args below meth c A H locs ls' ad ad0 n0 ok rep (mz_lv_s2 (ls := ls) (v := .long x) hl'))
theorem mz_lstore_n {i : Fin 4} {x : Int64} (hd : decode cc pc = .ok (.lstore_n i, 1)) (hn : i.val + 1 < nL) (h : mz_X G X cn ini cc nL ret rm post thr (pc + 1) (mz_s2 l i.val (.long x)) (r) k1 k2 n (f)) : mz_X G X cn ini cc nL ret rm post thr (pc) (l) (.long x :: r) k1 k2 n (f) := by
  intro hk1 hk2 hol hos p e s m args below meth c A H locs ls ad ad0 n0 ok rep hl
  obtain ⟨hx, hb, hml, hr, hown, hin, hlocks, hts, hns, hK, hA⟩ := id ok
  refine lv_lstore_n hx hb hd rfl hl hn rfl (fun ls' hl' => ?_)
  exact (h hk1 hk2 (mz_okL_s2 hol (mz_okS_hd hos)) (mz_okS_tl hos) p e s m args below meth c A H locs ls' ad ad0 n0 ok rep (mz_lv_s2 (ls := ls) (v := .long x) hl'))
theorem mz_astore {i : Nat} {x : Nat} (hd : decode cc pc = .ok (.astore i, 2)) (hn : i < nL) (h : mz_X G X cn ini cc nL ret rm post thr (pc + 2) (mz_s1 l i (.ref x)) (r) k1 k2 n (f)) : mz_X G X cn ini cc nL ret rm post thr (pc) (l) (.ref x :: r) k1 k2 n (f) := by
  intro hk1 hk2 hol hos p e s m args below meth c A H locs ls ad ad0 n0 ok rep hl
  obtain ⟨hx, hb, hml, hr, hown, hin, hlocks, hts, hns, hK, hA⟩ := id ok
  refine lv_astore hx hb hd hl hn rfl (fun ls' hl' => ?_)
  exact (h hk1 hk2 (mz_okL_s1 hol (mz_okS_hd hos)) (mz_okS_tl hos) p e s m args below meth c A H locs ls' ad ad0 n0 ok rep (mz_lv_s1 (ls := ls) (v := .ref x) hl'))
theorem mz_astore_n {i : Fin 4} {x : Nat} (hd : decode cc pc = .ok (.astore_n i, 1)) (hn : i.val < nL) (h : mz_X G X cn ini cc nL ret rm post thr (pc + 1) (mz_s1 l i.val (.ref x)) (r) k1 k2 n (f)) : mz_X G X cn ini cc nL ret rm post thr (pc) (l) (.ref x :: r) k1 k2 n (f) := by
  intro hk1 hk2 hol hos p e s m args below meth c A H locs ls ad ad0 n0 ok rep hl
  obtain ⟨hx, hb, hml, hr, hown, hin, hlocks, hts, hns, hK, hA⟩ := id ok
  refine lv_astore_n hx hb hd rfl hl hn rfl (fun ls' hl' => ?_)
  exact (h hk1 hk2 (mz_okL_s1 hol (mz_okS_hd hos)) (mz_okS_tl hos) p e s m args below meth c A H locs ls' ad ad0 n0 ok rep (mz_lv_s1 (ls := ls) (v := .ref x) hl'))
theorem mz_astoreN {i : Nat} (hd : decode cc pc = .ok (.astore i, 2)) (hn : i < nL) (h : mz_X G X cn ini cc nL ret rm post thr (pc + 2) (mz_s1 l i (.null)) (r) k1 k2 n (f)) : mz_X G X cn ini cc nL ret rm post thr (pc) (l) (.null :: r) k1 k2 n (f) := by
  intro hk1 hk2 hol hos p e s m args below meth c A H locs ls ad ad0 n0 ok rep hl
  obtain ⟨hx, hb, hml, hr, hown, hin, hlocks, hts, hns, hK, hA⟩ := id ok
  refine lv_astoreN hx hb hd hl hn rfl (fun ls' hl' => ?_)
  exact (h hk1 hk2 (mz_okL_s1 hol (mz_okS_hd hos)) (mz_okS_tl hos) p e s m args below meth c A H locs ls' ad ad0 n0 ok rep (mz_lv_s1 (ls := ls) (v := .null) hl'))
theorem mz_astore_nN {i : Fin 4} (hd : decode cc pc = .ok (.astore_n i, 1)) (hn : i.val < nL) (h : mz_X G X cn ini cc nL ret rm post thr (pc + 1) (mz_s1 l i.val (.null)) (r) k1 k2 n (f)) : mz_X G X cn ini cc nL ret rm post thr (pc) (l) (.null :: r) k1 k2 n (f) := by
  intro hk1 hk2 hol hos p e s m args below meth c A H locs ls ad ad0 n0 ok rep hl
  obtain ⟨hx, hb, hml, hr, hown, hin, hlocks, hts, hns, hK, hA⟩ := id ok
  refine lv_astore_nN hx hb hd rfl hl hn rfl (fun ls' hl' => ?_)
  exact (h hk1 hk2 (mz_okL_s1 hol (mz_okS_hd hos)) (mz_okS_tl hos) p e s m args below meth c A H locs ls' ad ad0 n0 ok rep (mz_lv_s1 (ls := ls) (v := .null) hl'))
theorem mz_iinc {i : Nat} {d : Int} {x : Int32} (hd : decode cc pc = .ok (.iinc i d, 3)) (hi : l[i]? = some (some (.int x))) (hn : i < nL) (h : mz_X G X cn ini cc nL ret rm post thr (pc + 3) (mz_s1 l i (.int (x + Int32.ofInt d))) (r) k1 k2 n (f)) : mz_X G X cn ini cc nL ret rm post thr (pc) (l) (r) k1 k2 n (f) := by
  intro hk1 hk2 hol hos p e s m args below meth c A H locs ls ad ad0 n0 ok rep hl
  obtain ⟨hx, hb, hml, hr, hown, hin, hlocks, hts, hns, hK, hA⟩ := id ok
  obtain ⟨k, hk⟩ := List.mem_iff_getElem?.mp (mz_pr_mem (ad := ad) (w := .int x) |>.mpr ⟨.int x, hi, rfl⟩)
  refine lv_iinc hx hb hd hl hk rfl hn rfl (fun ls' hl' => ?_)
  exact (h hk1 hk2 (mz_okL_s1 hol trivial) hos p e s m args below meth c A H locs ls' ad ad0 n0 ok rep (mz_lv_s1 (ls := ls) (v := .int (x + Int32.ofInt d)) hl'))
theorem mz_if_eq {x : Int32} {off : Int} (hd : decode cc pc = .ok (.ifCond .eq off, 3)) (h0 : 0 ≤ (pc : Int) + off) (ht : x = 0 → mz_X G X cn ini cc nL ret rm post thr (mz_t pc off) (l) (r) k1 k2 n (f)) (hf : ¬ x = 0 → mz_X G X cn ini cc nL ret rm post thr (pc + 3) (l) (r) k1 k2 n (f)) : mz_X G X cn ini cc nL ret rm post thr (pc) (l) (.int x :: r) k1 k2 n (f) := by
  intro hk1 hk2 hol hos p e s m args below meth c A H locs ls ad ad0 n0 ok rep hl
  obtain ⟨hx, hb, hml, hr, hown, hin, hlocks, hts, hns, hK, hA⟩ := id ok
  exact lv_if_eq hx hb hd (mz_t_ok h0) (fun q => (ht q hk1 hk2 hol (mz_okS_tl hos) p e s m args below meth c A H locs ls ad ad0 n0 ok rep hl)) (fun q => (hf q hk1 hk2 hol (mz_okS_tl hos) p e s m args below meth c A H locs ls ad ad0 n0 ok rep hl))
theorem mz_icmp_eq {x y : Int32} {off : Int} (hd : decode cc pc = .ok (.if_icmp .eq off, 3)) (h0 : 0 ≤ (pc : Int) + off) (ht : x = y → mz_X G X cn ini cc nL ret rm post thr (mz_t pc off) (l) (r) k1 k2 n (f)) (hf : ¬ x = y → mz_X G X cn ini cc nL ret rm post thr (pc + 3) (l) (r) k1 k2 n (f)) : mz_X G X cn ini cc nL ret rm post thr (pc) (l) (.int y :: .int x :: r) k1 k2 n (f) := by
  intro hk1 hk2 hol hos p e s m args below meth c A H locs ls ad ad0 n0 ok rep hl
  obtain ⟨hx, hb, hml, hr, hown, hin, hlocks, hts, hns, hK, hA⟩ := id ok
  exact lv_icmp_eq hx hb hd (mz_t_ok h0) (fun q => (ht q hk1 hk2 hol (mz_okS_tl (mz_okS_tl hos)) p e s m args below meth c A H locs ls ad ad0 n0 ok rep hl)) (fun q => (hf q hk1 hk2 hol (mz_okS_tl (mz_okS_tl hos)) p e s m args below meth c A H locs ls ad ad0 n0 ok rep hl))
theorem mz_if_ne {x : Int32} {off : Int} (hd : decode cc pc = .ok (.ifCond .ne off, 3)) (h0 : 0 ≤ (pc : Int) + off) (ht : ¬ x = 0 → mz_X G X cn ini cc nL ret rm post thr (mz_t pc off) (l) (r) k1 k2 n (f)) (hf : x = 0 → mz_X G X cn ini cc nL ret rm post thr (pc + 3) (l) (r) k1 k2 n (f)) : mz_X G X cn ini cc nL ret rm post thr (pc) (l) (.int x :: r) k1 k2 n (f) := by
  intro hk1 hk2 hol hos p e s m args below meth c A H locs ls ad ad0 n0 ok rep hl
  obtain ⟨hx, hb, hml, hr, hown, hin, hlocks, hts, hns, hK, hA⟩ := id ok
  exact lv_if_ne hx hb hd (mz_t_ok h0) (fun q => (ht q hk1 hk2 hol (mz_okS_tl hos) p e s m args below meth c A H locs ls ad ad0 n0 ok rep hl)) (fun q => (hf q hk1 hk2 hol (mz_okS_tl hos) p e s m args below meth c A H locs ls ad ad0 n0 ok rep hl))
theorem mz_icmp_ne {x y : Int32} {off : Int} (hd : decode cc pc = .ok (.if_icmp .ne off, 3)) (h0 : 0 ≤ (pc : Int) + off) (ht : ¬ x = y → mz_X G X cn ini cc nL ret rm post thr (mz_t pc off) (l) (r) k1 k2 n (f)) (hf : x = y → mz_X G X cn ini cc nL ret rm post thr (pc + 3) (l) (r) k1 k2 n (f)) : mz_X G X cn ini cc nL ret rm post thr (pc) (l) (.int y :: .int x :: r) k1 k2 n (f) := by
  intro hk1 hk2 hol hos p e s m args below meth c A H locs ls ad ad0 n0 ok rep hl
  obtain ⟨hx, hb, hml, hr, hown, hin, hlocks, hts, hns, hK, hA⟩ := id ok
  exact lv_icmp_ne hx hb hd (mz_t_ok h0) (fun q => (ht q hk1 hk2 hol (mz_okS_tl (mz_okS_tl hos)) p e s m args below meth c A H locs ls ad ad0 n0 ok rep hl)) (fun q => (hf q hk1 hk2 hol (mz_okS_tl (mz_okS_tl hos)) p e s m args below meth c A H locs ls ad ad0 n0 ok rep hl))
theorem mz_if_lt {x : Int32} {off : Int} (hd : decode cc pc = .ok (.ifCond .lt off, 3)) (h0 : 0 ≤ (pc : Int) + off) (ht : x < 0 → mz_X G X cn ini cc nL ret rm post thr (mz_t pc off) (l) (r) k1 k2 n (f)) (hf : ¬ x < 0 → mz_X G X cn ini cc nL ret rm post thr (pc + 3) (l) (r) k1 k2 n (f)) : mz_X G X cn ini cc nL ret rm post thr (pc) (l) (.int x :: r) k1 k2 n (f) := by
  intro hk1 hk2 hol hos p e s m args below meth c A H locs ls ad ad0 n0 ok rep hl
  obtain ⟨hx, hb, hml, hr, hown, hin, hlocks, hts, hns, hK, hA⟩ := id ok
  exact lv_if_lt hx hb hd (mz_t_ok h0) (fun q => (ht q hk1 hk2 hol (mz_okS_tl hos) p e s m args below meth c A H locs ls ad ad0 n0 ok rep hl)) (fun q => (hf q hk1 hk2 hol (mz_okS_tl hos) p e s m args below meth c A H locs ls ad ad0 n0 ok rep hl))
theorem mz_icmp_lt {x y : Int32} {off : Int} (hd : decode cc pc = .ok (.if_icmp .lt off, 3)) (h0 : 0 ≤ (pc : Int) + off) (ht : x < y → mz_X G X cn ini cc nL ret rm post thr (mz_t pc off) (l) (r) k1 k2 n (f)) (hf : ¬ x < y → mz_X G X cn ini cc nL ret rm post thr (pc + 3) (l) (r) k1 k2 n (f)) : mz_X G X cn ini cc nL ret rm post thr (pc) (l) (.int y :: .int x :: r) k1 k2 n (f) := by
  intro hk1 hk2 hol hos p e s m args below meth c A H locs ls ad ad0 n0 ok rep hl
  obtain ⟨hx, hb, hml, hr, hown, hin, hlocks, hts, hns, hK, hA⟩ := id ok
  exact lv_icmp_lt hx hb hd (mz_t_ok h0) (fun q => (ht q hk1 hk2 hol (mz_okS_tl (mz_okS_tl hos)) p e s m args below meth c A H locs ls ad ad0 n0 ok rep hl)) (fun q => (hf q hk1 hk2 hol (mz_okS_tl (mz_okS_tl hos)) p e s m args below meth c A H locs ls ad ad0 n0 ok rep hl))
theorem mz_if_ge {x : Int32} {off : Int} (hd : decode cc pc = .ok (.ifCond .ge off, 3)) (h0 : 0 ≤ (pc : Int) + off) (ht : 0 ≤ x → mz_X G X cn ini cc nL ret rm post thr (mz_t pc off) (l) (r) k1 k2 n (f)) (hf : ¬ 0 ≤ x → mz_X G X cn ini cc nL ret rm post thr (pc + 3) (l) (r) k1 k2 n (f)) : mz_X G X cn ini cc nL ret rm post thr (pc) (l) (.int x :: r) k1 k2 n (f) := by
  intro hk1 hk2 hol hos p e s m args below meth c A H locs ls ad ad0 n0 ok rep hl
  obtain ⟨hx, hb, hml, hr, hown, hin, hlocks, hts, hns, hK, hA⟩ := id ok
  exact lv_if_ge hx hb hd (mz_t_ok h0) (fun q => (ht q hk1 hk2 hol (mz_okS_tl hos) p e s m args below meth c A H locs ls ad ad0 n0 ok rep hl)) (fun q => (hf q hk1 hk2 hol (mz_okS_tl hos) p e s m args below meth c A H locs ls ad ad0 n0 ok rep hl))
theorem mz_icmp_ge {x y : Int32} {off : Int} (hd : decode cc pc = .ok (.if_icmp .ge off, 3)) (h0 : 0 ≤ (pc : Int) + off) (ht : y ≤ x → mz_X G X cn ini cc nL ret rm post thr (mz_t pc off) (l) (r) k1 k2 n (f)) (hf : ¬ y ≤ x → mz_X G X cn ini cc nL ret rm post thr (pc + 3) (l) (r) k1 k2 n (f)) : mz_X G X cn ini cc nL ret rm post thr (pc) (l) (.int y :: .int x :: r) k1 k2 n (f) := by
  intro hk1 hk2 hol hos p e s m args below meth c A H locs ls ad ad0 n0 ok rep hl
  obtain ⟨hx, hb, hml, hr, hown, hin, hlocks, hts, hns, hK, hA⟩ := id ok
  exact lv_icmp_ge hx hb hd (mz_t_ok h0) (fun q => (ht q hk1 hk2 hol (mz_okS_tl (mz_okS_tl hos)) p e s m args below meth c A H locs ls ad ad0 n0 ok rep hl)) (fun q => (hf q hk1 hk2 hol (mz_okS_tl (mz_okS_tl hos)) p e s m args below meth c A H locs ls ad ad0 n0 ok rep hl))
theorem mz_if_gt {x : Int32} {off : Int} (hd : decode cc pc = .ok (.ifCond .gt off, 3)) (h0 : 0 ≤ (pc : Int) + off) (ht : 0 < x → mz_X G X cn ini cc nL ret rm post thr (mz_t pc off) (l) (r) k1 k2 n (f)) (hf : ¬ 0 < x → mz_X G X cn ini cc nL ret rm post thr (pc + 3) (l) (r) k1 k2 n (f)) : mz_X G X cn ini cc nL ret rm post thr (pc) (l) (.int x :: r) k1 k2 n (f) := by
  intro hk1 hk2 hol hos p e s m args below meth c A H locs ls ad ad0 n0 ok rep hl
  obtain ⟨hx, hb, hml, hr, hown, hin, hlocks, hts, hns, hK, hA⟩ := id ok
  exact lv_if_gt hx hb hd (mz_t_ok h0) (fun q => (ht q hk1 hk2 hol (mz_okS_tl hos) p e s m args below meth c A H locs ls ad ad0 n0 ok rep hl)) (fun q => (hf q hk1 hk2 hol (mz_okS_tl hos) p e s m args below meth c A H locs ls ad ad0 n0 ok rep hl))
theorem mz_icmp_gt {x y : Int32} {off : Int} (hd : decode cc pc = .ok (.if_icmp .gt off, 3)) (h0 : 0 ≤ (pc : Int) + off) (ht : y < x → mz_X G X cn ini cc nL ret rm post thr (mz_t pc off) (l) (r) k1 k2 n (f)) (hf : ¬ y < x → mz_X G X cn ini cc nL ret rm post thr (pc + 3) (l) (r) k1 k2 n (f)) : mz_X G X cn ini cc nL ret rm post thr (pc) (l) (.int y :: .int x :: r) k1 k2 n (f) := by
  intro hk1 hk2 hol hos p e s m args below meth c A H locs ls ad ad0 n0 ok rep hl
  obtain ⟨hx, hb, hml, hr, hown, hin, hlocks, hts, hns, hK, hA⟩ := id ok
  exact lv_icmp_gt hx hb hd (mz_t_ok h0) (fun q => (ht q hk1 hk2 hol (mz_okS_tl (mz_okS_tl hos)) p e s m args below meth c A H locs ls ad ad0 n0 ok rep hl)) (fun q => (hf q hk1 hk2 hol (mz_okS_tl (mz_okS_tl hos)) p e s m args below meth c A H locs ls ad ad0 n0 ok rep hl))
theorem mz_if_le {x : Int32} {off : Int} (hd : decode cc pc = .ok (.ifCond .le off, 3)) (h0 : 0 ≤ (pc : Int) + off) (ht : x ≤ 0 → mz_X G X cn ini cc nL ret rm post thr (mz_t pc off) (l) (r) k1 k2 n (f)) (hf : ¬ x ≤ 0 → mz_X G X cn ini cc nL ret rm post thr (pc + 3) (l) (r) k1 k2 n (f)) : mz_X G X cn ini cc nL ret rm post thr (pc) (l) (.int x :: r) k1 k2 n (f) := by
  intro hk1 hk2 hol hos p e s m args below meth c A H locs ls ad ad0 n0 ok rep hl
  obtain ⟨hx, hb, hml, hr, hown, hin, hlocks, hts, hns, hK, hA⟩ := id ok
  exact lv_if_le hx hb hd (mz_t_ok h0) (fun q => (ht q hk1 hk2 hol (mz_okS_tl hos) p e s m args below meth c A H locs ls ad ad0 n0 ok rep hl)) (fun q => (hf q hk1 hk2 hol (mz_okS_tl hos) p e s m args below meth c A H locs ls ad ad0 n0 ok rep hl))
theorem mz_icmp_le {x y : Int32} {off : Int} (hd : decode cc pc = .ok (.if_icmp .le off, 3)) (h0 : 0 ≤ (pc : Int) + off) (ht : x ≤ y → mz_X G X cn ini cc nL ret rm post thr (mz_t pc off) (l) (r) k1 k2 n (f)) (hf : ¬ x ≤ y → mz_X G X cn ini cc nL ret rm post thr (pc + 3) (l) (r) k1 k2 n (f)) : mz_X G X cn ini cc nL ret rm post thr (pc) (l) (.int y :: .int x :: r) k1 k2 n (f) := by
  intro hk1 hk2 hol hos p e s m args below meth c A H locs ls ad ad0 n0 ok rep hl
  obtain ⟨hx, hb, hml, hr, hown, hin, hlocks, hts, hns, hK, hA⟩ := id ok
  exact lv_icmp_le hx hb hd (mz_t_ok h0) (fun q => (ht q hk1 hk2 hol (mz_okS_tl (mz_okS_tl hos)) p e s m args below meth c A H locs ls ad ad0 n0 ok rep hl)) (fun q => (hf q hk1 hk2 hol (mz_okS_tl (mz_okS_tl hos)) p e s m args below meth c A H locs ls ad ad0 n0 ok rep hl))
theorem mz_goto {off : Int} (hd : decode cc pc = .ok (.goto off, 3)) (h0 : 0 ≤ (pc : Int) + off) (h : mz_X G X cn ini cc nL ret rm post thr (mz_t pc off) (l) (r) k1 k2 n (f)) : mz_X G X cn ini cc nL ret rm post thr (pc) (l) (r) k1 k2 n (f) := by
  intro hk1 hk2 hol hos p e s m args below meth c A H locs ls ad ad0 n0 ok rep hl
  obtain ⟨hx, hb, hml, hr, hown, hin, hlocks, hts, hns, hK, hA⟩ := id ok
  exact lv_goto hx hb hd (mz_t_ok h0) (h hk1 hk2 hol hos p e s m args below meth c A H locs ls ad ad0 n0 ok rep hl)
theorem mz_ifnull {x : Nat} {off : Int} (hd : decode cc pc = .ok (.ifnull off, 3)) (h : mz_X G X cn ini cc nL ret rm post thr (pc + 3) (l) (r) k1 k2 n (f)) : mz_X G X cn ini cc nL ret rm post thr (pc) (l) (.ref x :: r) k1 k2 n (f) := by
  intro hk1 hk2 hol hos p e s m args below meth c A H locs ls ad ad0 n0 ok rep hl
  obtain ⟨hx, hb, hml, hr, hown, hin, hlocks, hts, hns, hK, hA⟩ := id ok
  exact lv_ifnull hx hb hd (h hk1 hk2 hol (mz_okS_tl hos) p e s m args below meth c A H locs ls ad ad0 n0 ok rep hl)
theorem mz_ifnonnull {x : Nat} {off : Int} (hd : decode cc pc = .ok (.ifnonnull off, 3)) (h0 : 0 ≤ (pc : Int) + off) (h : mz_X G X cn ini cc nL ret rm post thr (mz_t pc off) (l) (r) k1 k2 n (f)) : mz_X G X cn ini cc nL ret rm post thr (pc) (l) (.ref x :: r) k1 k2 n (f) := by
  intro hk1 hk2 hol hos p e s m args below meth c A H locs ls ad ad0 n0 ok rep hl
  obtain ⟨hx, hb, hml, hr, hown, hin, hlocks, hts, hns, hK, hA⟩ := id ok
  exact lv_ifnonnull hx hb hd (mz_t_ok h0) (h hk1 hk2 hol (mz_okS_tl hos) p e s m args below meth c A H locs ls ad ad0 n0 ok rep hl)
theorem mz_ifnullN {off : Int} (hd : decode cc pc = .ok (.ifnull off, 3)) (h0 : 0 ≤ (pc : Int) + off) (h : mz_X G X cn ini cc nL ret rm post thr (mz_t pc off) (l) (r) k1 k2 n (f)) : mz_X G X cn ini cc nL ret rm post thr (pc) (l) (.null :: r) k1 k2 n (f) := by
  intro hk1 hk2 hol hos p e s m args below meth c A H locs ls ad ad0 n0 ok rep hl
  obtain ⟨hx, hb, hml, hr, hown, hin, hlocks, hts, hns, hK, hA⟩ := id ok
  exact lv_ifnullN hx hb hd (mz_t_ok h0) (h hk1 hk2 hol (mz_okS_tl hos) p e s m args below meth c A H locs ls ad ad0 n0 ok rep hl)
theorem mz_ifnonnullN {off : Int} (hd : decode cc pc = .ok (.ifnonnull off, 3)) (h : mz_X G X cn ini cc nL ret rm post thr (pc + 3) (l) (r) k1 k2 n (f)) : mz_X G X cn ini cc nL ret rm post thr (pc) (l) (.null :: r) k1 k2 n (f) := by
  intro hk1 hk2 hol hos p e s m args below meth c A H locs ls ad ad0 n0 ok rep hl
  obtain ⟨hx, hb, hml, hr, hown, hin, hlocks, hts, hns, hK, hA⟩ := id ok
  exact lv_ifnonnullN hx hb hd (h hk1 hk2 hol (mz_okS_tl hos) p e s m args below meth c A H locs ls ad ad0 n0 ok rep hl)
theorem mz_table {x : Int32} {dflt lo hi : Int} {offs : Array Int} {len : Nat} (hd : decode cc pc = .ok (.tableswitch dflt lo hi offs, len)) (ho : (x.toInt < lo ∨ hi < x.toInt) → 0 ≤ (pc : Int) + dflt ∧ mz_X G X cn ini cc nL ret rm post thr (mz_t pc dflt) (l) (r) k1 k2 n (f)) (hi' : ¬ x.toInt < lo → ¬ hi < x.toInt → ∃ off, offs[(x.toInt - lo).toNat]? = some off ∧ 0 ≤ (pc : Int) + off ∧ mz_X G X cn ini cc nL ret rm post thr (mz_t pc off) (l) (r) k1 k2 n (f)) : mz_X G X cn ini cc nL ret rm post thr (pc) (l) (.int x :: r) k1 k2 n (f) := by
  intro hk1 hk2 hol hos p e s m args below meth c A H locs ls ad ad0 n0 ok rep hl
  obtain ⟨hx, hb, hml, hr, hown, hin, hlocks, hts, hns, hK, hA⟩ := id ok
  by_cases q1 : x.toInt < lo
  · obtain ⟨a, b⟩ := ho (Or.inl q1)
    exact lv_tableOut hx hb hd (Or.inl q1) (mz_t_ok a) (b hk1 hk2 hol (mz_okS_tl hos) p e s m args below meth c A H locs ls ad ad0 n0 ok rep hl)
  · by_cases q2 : hi < x.toInt
    · obtain ⟨a, b⟩ := ho (Or.inr q2)
      exact lv_tableOut hx hb hd (Or.inr q2) (mz_t_ok a) (b hk1 hk2 hol (mz_okS_tl hos) p e s m args below meth c A H locs ls ad ad0 n0 ok rep hl)
    · obtain ⟨off, a0, a, b⟩ := hi' q1 q2
      exact lv_tableIn hx hb hd q1 q2 a0 (mz_t_ok a) (b hk1 hk2 hol (mz_okS_tl hos) p e s m args below meth c A H locs ls ad ad0 n0 ok rep hl)
theorem mz_look {x : Int32} {dflt : Int} {ps : Array (Int × Int)} {len : Nat} {off : Int} (hd : decode cc pc = .ok (.lookupswitch dflt ps, len)) (hp : (ps.toList.zip (ps.toList.drop 1)).all (fun (a, next) => a.1 < next.1) = true) (ho : Op.lookupswitch.offset ps.toList dflt x.toInt = off) (h0 : 0 ≤ (pc : Int) + off) (h : mz_X G X cn ini cc nL ret rm post thr (mz_t pc off) (l) (r) k1 k2 n (f)) : mz_X G X cn ini cc nL ret rm post thr (pc) (l) (.int x :: r) k1 k2 n (f) := by
  intro hk1 hk2 hol hos p e s m args below meth c A H locs ls ad ad0 n0 ok rep hl
  obtain ⟨hx, hb, hml, hr, hown, hin, hlocks, hts, hns, hK, hA⟩ := id ok
  exact lv_lookup hx hb hd hp ho (mz_t_ok h0) (h hk1 hk2 hol (mz_okS_tl hos) p e s m args below meth c A H locs ls ad ad0 n0 ok rep hl)
theorem mz_ireturn {x : Int32} {ty : FieldType} (hd : decode cc pc = .ok (.ireturn, 1)) (hty : ret = some ty) (hn : narrow ty (.int x) = .int x) (h : post (some (.int x)) n f) : mz_X G X cn ini cc nL ret rm post thr (pc) (l) ([.int x]) k1 k2 n (f) := by
  intro hk1 hk2 hol hos p e s m args below meth c A H locs ls ad ad0 n0 ok rep hl
  obtain ⟨hx, hb, hml, hr, hown, hin, hlocks, hts, hns, hK, hA⟩ := id ok
  refine W.widen (k := rm.cells) (n := rm.slots) hk1 hk2 ?_
  obtain ⟨rP, rD, rS, rW, rN, rA, -⟩ := rep
  exact mz_wor (fun _ q => Or.inl q) <| W.zret hx hb (hr.trans hty) hn (fun t ht hW => ⟨some (.int x), ad, n, f, rfl, h, by rw [ht]; exact rP, rD, rS.F ht, rW, rN, rA, fun y hy => by cases hy; trivial⟩) rS.2.2 hd hlocks.1
theorem mz_lreturn {x : Int64} (hd : decode cc pc = .ok (.lreturn, 1)) (hty : ret = some .long) (h : post (some (.long x)) n f) : mz_X G X cn ini cc nL ret rm post thr (pc) (l) ([.long x]) k1 k2 n (f) := by
  intro hk1 hk2 hol hos p e s m args below meth c A H locs ls ad ad0 n0 ok rep hl
  obtain ⟨hx, hb, hml, hr, hown, hin, hlocks, hts, hns, hK, hA⟩ := id ok
  refine W.widen (k := rm.cells) (n := rm.slots) hk1 hk2 ?_
  obtain ⟨rP, rD, rS, rW, rN, rA, -⟩ := rep
  exact mz_wor (fun _ q => Or.inl q) <| W.lret hx hb (hr.trans hty) (fun t ht hW => ⟨some (.long x), ad, n, f, rfl, h, by rw [ht]; exact rP, rD, rS.F ht, rW, rN, rA, fun y hy => by cases hy; trivial⟩) rS.2.2 hd hlocks.1
theorem mz_areturn {v : Value} {ty : FieldType} (hd : decode cc pc = .ok (.areturn, 1)) (hty : ret = some ty) (hrt : (∃ n, ty = .object n) ∨ ∃ t, ty = .array t) (hv : v = .null ∨ ∃ a, v = .ref a) (h : post (some v) n f) : mz_X G X cn ini cc nL ret rm post thr (pc) (l) ([v]) k1 k2 n (f) := by
  intro hk1 hk2 hol hos p e s m args below meth c A H locs ls ad ad0 n0 ok rep hl
  obtain ⟨hx, hb, hml, hr, hown, hin, hlocks, hts, hns, hK, hA⟩ := id ok
  refine W.widen (k := rm.cells) (n := rm.slots) hk1 hk2 ?_
  obtain ⟨rP, rD, rS, rW, rN, rA, -⟩ := rep
  exact mz_wor (fun _ q => Or.inl q) <| W.aret hx hb (hr.trans hty) hrt (by rcases hv with rfl | ⟨a, rfl⟩; exact Or.inl rfl; exact Or.inr ⟨_, rfl⟩) (fun t ht hW => ⟨some v, ad, n, f, rfl, h, by rw [ht]; exact rP, rD, rS.F ht, rW, rN, rA, fun y hy => by cases hy; exact mz_okS_hd hos⟩) rS.2.2 hd hlocks.1
theorem mz_return (hd : decode cc pc = .ok (.return_, 1)) (hty : ret = none) (h : post none n f) : mz_X G X cn ini cc nL ret rm post thr (pc) (l) ([]) k1 k2 n (f) := by
  intro hk1 hk2 hol hos p e s m args below meth c A H locs ls ad ad0 n0 ok rep hl
  obtain ⟨hx, hb, hml, hr, hown, hin, hlocks, hts, hns, hK, hA⟩ := id ok
  refine W.widen (k := rm.cells) (n := rm.slots) hk1 hk2 ?_
  obtain ⟨rP, rD, rS, rW, rN, rA, -⟩ := rep
  exact mz_wor (fun _ q => Or.inl q) <| W.vret hx hb (hr.trans hty) (fun t ht hW => ⟨none, ad, n, f, rfl, h, by rw [ht]; exact rP, rD, rS.F ht, rW, rN, rA, fun y hy => by cases hy⟩) rS.2.2 hd hlocks.1
theorem mz_iald {a N : Nat} {g : Nat → Int32} {i : Int32} (hd : decode cc pc = .ok (.iaload, 1)) (ha : f a = .inl (0, N, .inl g)) (hi : vp_in i N) (h : mz_X G X cn ini cc nL ret rm post thr (pc + 1) (l) (.int (g i.toNatClampNeg) :: r) k1 k2 n (f)) : mz_X G X cn ini cc nL ret rm post thr (pc) (l) (.int i :: .ref a :: r) k1 k2 n (f) := by
  intro hk1 hk2 hol hos p e s m args below meth c A H locs ls ad ad0 n0 ok rep hl
  obtain ⟨hx, hb, hml, hr, hown, hin, hlocks, hts, hns, hK, hA⟩ := id ok
  obtain ⟨rP, rD, rS, rW, rN, rA, rX⟩ := id rep
  have hlt : a < n := mz_wf_lt rW (by rw [ha]; exact fun q => by cases q)
  have hg := mz_w_get (tA := G.2.2) (ad := ad) (f := f) hlt
  rw [ha] at hg
  exact va_iald hx hb hK rP a 0 hg (mz_ty_get nm_ty0) hi hd (h hk1 hk2 hol (mz_okS_c trivial (mz_okS_tl (mz_okS_tl hos))) p e s m args below meth c A H locs ls ad ad0 n0 ok rep hl)
theorem mz_bald {a N : Nat} {g : Nat → Int32} {i : Int32} (hd : decode cc pc = .ok (.baload, 1)) (ha : f a = .inl (1, N, .inl g)) (hi : vp_in i N) (h : mz_X G X cn ini cc nL ret rm post thr (pc + 1) (l) (.int (g i.toNatClampNeg) :: r) k1 k2 n (f)) : mz_X G X cn ini cc nL ret rm post thr (pc) (l) (.int i :: .ref a :: r) k1 k2 n (f) := by
  intro hk1 hk2 hol hos p e s m args below meth c A H locs ls ad ad0 n0 ok rep hl
  obtain ⟨hx, hb, hml, hr, hown, hin, hlocks, hts, hns, hK, hA⟩ := id ok
  obtain ⟨rP, rD, rS, rW, rN, rA, rX⟩ := id rep
  have hlt : a < n := mz_wf_lt rW (by rw [ha]; exact fun q => by cases q)
  have hg := mz_w_get (tA := G.2.2) (ad := ad) (f := f) hlt
  rw [ha] at hg
  exact va_bald hx hb hK rP a 1 hg (mz_ty_get nm_ty1) hi hd (h hk1 hk2 hol (mz_okS_c trivial (mz_okS_tl (mz_okS_tl hos))) p e s m args below meth c A H locs ls ad ad0 n0 ok rep hl)
theorem mz_sald {a N : Nat} {g : Nat → Int32} {i : Int32} (hd : decode cc pc = .ok (.saload, 1)) (ha : f a = .inl (2, N, .inl g)) (hi : vp_in i N) (h : mz_X G X cn ini cc nL ret rm post thr (pc + 1) (l) (.int (g i.toNatClampNeg) :: r) k1 k2 n (f)) : mz_X G X cn ini cc nL ret rm post thr (pc) (l) (.int i :: .ref a :: r) k1 k2 n (f) := by
  intro hk1 hk2 hol hos p e s m args below meth c A H locs ls ad ad0 n0 ok rep hl
  obtain ⟨hx, hb, hml, hr, hown, hin, hlocks, hts, hns, hK, hA⟩ := id ok
  obtain ⟨rP, rD, rS, rW, rN, rA, rX⟩ := id rep
  have hlt : a < n := mz_wf_lt rW (by rw [ha]; exact fun q => by cases q)
  have hg := mz_w_get (tA := G.2.2) (ad := ad) (f := f) hlt
  rw [ha] at hg
  exact va_sald hx hb hK rP a 2 hg (mz_ty_get nm_ty2) hi hd (h hk1 hk2 hol (mz_okS_c trivial (mz_okS_tl (mz_okS_tl hos))) p e s m args below meth c A H locs ls ad ad0 n0 ok rep hl)
theorem mz_lald {a N : Nat} {g : Nat → Int64} {i : Int32} (hd : decode cc pc = .ok (.laload, 1)) (ha : f a = .inl (3, N, .inr (.inl g))) (hi : vp_in i N) (h : mz_X G X cn ini cc nL ret rm post thr (pc + 1) (l) (.long (g i.toNatClampNeg) :: r) k1 k2 n (f)) : mz_X G X cn ini cc nL ret rm post thr (pc) (l) (.int i :: .ref a :: r) k1 k2 n (f) := by
  intro hk1 hk2 hol hos p e s m args below meth c A H locs ls ad ad0 n0 ok rep hl
  obtain ⟨hx, hb, hml, hr, hown, hin, hlocks, hts, hns, hK, hA⟩ := id ok
  obtain ⟨rP, rD, rS, rW, rN, rA, rX⟩ := id rep
  have hlt : a < n := mz_wf_lt rW (by rw [ha]; exact fun q => by cases q)
  have hg := mz_w_get (tA := G.2.2) (ad := ad) (f := f) hlt
  rw [ha] at hg
  exact va_lald hx hb hK rP a 3 hg (mz_ty_get nm_ty3) hi hd (h hk1 hk2 hol (mz_okS_c trivial (mz_okS_tl (mz_okS_tl hos))) p e s m args below meth c A H locs ls ad ad0 n0 ok rep hl)
theorem mz_iast {a N : Nat} {g : Nat → Int32} {i : Int32} {x : Int32} (hd : decode cc pc = .ok (.iastore, 1)) (ha : f a = .inl (0, N, .inl g)) (hi : vp_in i N) (h : mz_X G X cn ini cc nL ret rm post thr (pc + 1) (l) (r) k1 k2 n (mz_u f a (.inl (0, N, .inl (upd g i.toNatClampNeg x))))) : mz_X G X cn ini cc nL ret rm post thr (pc) (l) (.int x :: .int i :: .ref a :: r) k1 k2 n (f) := by
  intro hk1 hk2 hol hos p e s m args below meth c A H locs ls ad ad0 n0 ok rep hl
  obtain ⟨hx, hb, hml, hr, hown, hin, hlocks, hts, hns, hK, hA⟩ := id ok
  obtain ⟨rP, rD, rS, rW, rN, rA, rX⟩ := id rep
  have hnd : f a ≠ mz_d := by rw [ha]; exact fun q => by cases q
  have hlt : a < n := mz_wf_lt rW hnd
  have hg := mz_w_get (tA := G.2.2) (ad := ad) (f := f) hlt
  rw [ha] at hg
  refine va_iast hx hb hK rP rD rS a 0 hg (mz_ty_get nm_ty0) hi hd (fun H1 locs1 hP1 hD1 hS1 => ?_)
  have eW := mz_w_set (tA := G.2.2) (ad := ad) (n := n) (f := f) (k := a) (.inl (0, N, .inl (upd g i.toNatClampNeg x)))
  exact h hk1 hk2 hol (mz_okS_tl (mz_okS_tl (mz_okS_tl hos))) p e s m args below meth c A H1 locs1 ls ad ad0 n0 ok ⟨by rw [← eW]; exact hP1, by rw [← eW]; exact hD1, hS1, mz_wf_u rW hnd trivial, rN, rA, rX⟩ hl
theorem mz_bast {a N : Nat} {g : Nat → Int32} {i : Int32} {x : Int32} (hd : decode cc pc = .ok (.bastore, 1)) (ha : f a = .inl (1, N, .inl g)) (hi : vp_in i N) (h : mz_X G X cn ini cc nL ret rm post thr (pc + 1) (l) (r) k1 k2 n (mz_u f a (.inl (1, N, .inl (upd g i.toNatClampNeg (vp_nar .byte x)))))) : mz_X G X cn ini cc nL ret rm post thr (pc) (l) (.int x :: .int i :: .ref a :: r) k1 k2 n (f) := by
  intro hk1 hk2 hol hos p e s m args below meth c A H locs ls ad ad0 n0 ok rep hl
  obtain ⟨hx, hb, hml, hr, hown, hin, hlocks, hts, hns, hK, hA⟩ := id ok
  obtain ⟨rP, rD, rS, rW, rN, rA, rX⟩ := id rep
  have hnd : f a ≠ mz_d := by rw [ha]; exact fun q => by cases q
  have hlt : a < n := mz_wf_lt rW hnd
  have hg := mz_w_get (tA := G.2.2) (ad := ad) (f := f) hlt
  rw [ha] at hg
  refine va_bast hx hb hK rP rD rS a 1 hg (mz_ty_get nm_ty1) hi hd (fun H1 locs1 hP1 hD1 hS1 => ?_)
  have eW := mz_w_set (tA := G.2.2) (ad := ad) (n := n) (f := f) (k := a) (.inl (1, N, .inl (upd g i.toNatClampNeg (vp_nar .byte x))))
  exact h hk1 hk2 hol (mz_okS_tl (mz_okS_tl (mz_okS_tl hos))) p e s m args below meth c A H1 locs1 ls ad ad0 n0 ok ⟨by rw [← eW]; exact hP1, by rw [← eW]; exact hD1, hS1, mz_wf_u rW hnd trivial, rN, rA, rX⟩ hl
theorem mz_sast {a N : Nat} {g : Nat → Int32} {i : Int32} {x : Int32} (hd : decode cc pc = .ok (.sastore, 1)) (ha : f a = .inl (2, N, .inl g)) (hi : vp_in i N) (h : mz_X G X cn ini cc nL ret rm post thr (pc + 1) (l) (r) k1 k2 n (mz_u f a (.inl (2, N, .inl (upd g i.toNatClampNeg (vp_nar .short x)))))) : mz_X G X cn ini cc nL ret rm post thr (pc) (l) (.int x :: .int i :: .ref a :: r) k1 k2 n (f) := by
  intro hk1 hk2 hol hos p e s m args below meth c A H locs ls ad ad0 n0 ok rep hl
  obtain ⟨hx, hb, hml, hr, hown, hin, hlocks, hts, hns, hK, hA⟩ := id ok
  obtain ⟨rP, rD, rS, rW, rN, rA, rX⟩ := id rep
  have hnd : f a ≠ mz_d := by rw [ha]; exact fun q => by cases q
  have hlt : a < n := mz_wf_lt rW hnd
  have hg := mz_w_get (tA := G.2.2) (ad := ad) (f := f) hlt
  rw [ha] at hg
  refine va_sast hx hb hK rP rD rS a 2 hg (mz_ty_get nm_ty2) hi hd (fun H1 locs1 hP1 hD1 hS1 => ?_)
  have eW := mz_w_set (tA := G.2.2) (ad := ad) (n := n) (f := f) (k := a) (.inl (2, N, .inl (upd g i.toNatClampNeg (vp_nar .short x))))
  exact h hk1 hk2 hol (mz_okS_tl (mz_okS_tl (mz_okS_tl hos))) p e s m args below meth c A H1 locs1 ls ad ad0 n0 ok ⟨by rw [← eW]; exact hP1, by rw [← eW]; exact hD1, hS1, mz_wf_u rW hnd trivial, rN, rA, rX⟩ hl
theorem mz_last {a N : Nat} {g : Nat → Int64} {i : Int32} {x : Int64} (hd : decode cc pc = .ok (.lastore, 1)) (ha : f a = .inl (3, N, .inr (.inl g))) (hi : vp_in i N) (h : mz_X G X cn ini cc nL ret rm post thr (pc + 1) (l) (r) k1 k2 n (mz_u f a (.inl (3, N, .inr (.inl (vp_updL g i.toNatClampNeg x)))))) : mz_X G X cn ini cc nL ret rm post thr (pc) (l) (.long x :: .int i :: .ref a :: r) k1 k2 n (f) := by
  intro hk1 hk2 hol hos p e s m args below meth c A H locs ls ad ad0 n0 ok rep hl
  obtain ⟨hx, hb, hml, hr, hown, hin, hlocks, hts, hns, hK, hA⟩ := id ok
  obtain ⟨rP, rD, rS, rW, rN, rA, rX⟩ := id rep
  have hnd : f a ≠ mz_d := by rw [ha]; exact fun q => by cases q
  have hlt : a < n := mz_wf_lt rW hnd
  have hg := mz_w_get (tA := G.2.2) (ad := ad) (f := f) hlt
  rw [ha] at hg
  refine va_last hx hb hK rP rD rS a 3 hg (mz_ty_get nm_ty3) hi hd (fun H1 locs1 hP1 hD1 hS1 => ?_)
  have eW := mz_w_set (tA := G.2.2) (ad := ad) (n := n) (f := f) (k := a) (.inl (3, N, .inr (.inl (vp_updL g i.toNatClampNeg x))))
  exact h hk1 hk2 hol (mz_okS_tl (mz_okS_tl (mz_okS_tl hos))) p e s m args below meth c A H1 locs1 ls ad ad0 n0 ok ⟨by rw [← eW]; exact hP1, by rw [← eW]; exact hD1, hS1, mz_wf_u rW hnd trivial, rN, rA, rX⟩ hl
theorem mz_v_rf (ad : Nat → Nat) (o : Option Nat) : mz_v ad (va_rf o) = va_rf (o.map ad) := by cases o <;> rfl
theorem mz_okV_rf {n : Nat} {o : Option Nat} (h : ∀ a, o = some a → a < n) : mz_okV n (va_rf o) := by
  cases o with
  | none => trivial
  | some a => exact Or.inl (h a rfl)
theorem mz_aald {a N t : Nat} {g : Nat → Option Nat} {ty : FieldType} {i : Int32} (hd : decode cc pc = .ok (.aaload, 1)) (ha : f a = .inl (t, N, .inr (.inr (.inr (.inr g))))) (ht : nm_Ty[t]? = some ty) (hrt : ty.isReference = true) (hi : vp_in i N) (h : mz_X G X cn ini cc nL ret rm post thr (pc + 1) (l) (va_rf (g i.toNatClampNeg) :: r) k1 k2 n (f)) : mz_X G X cn ini cc nL ret rm post thr (pc) (l) (.int i :: .ref a :: r) k1 k2 n (f) := by
  intro hk1 hk2 hol hos p e s m args below meth c A H locs ls ad ad0 n0 ok rep hl
  obtain ⟨hx, hb, hml, hr, hown, hin, hlocks, hts, hns, hK, hA⟩ := id ok
  obtain ⟨rP, rD, rS, rW, rN, rA, rX⟩ := id rep
  have hlt : a < n := mz_wf_lt rW (by rw [ha]; exact fun q => by cases q)
  have hok := rW.2.1 a
  rw [ha] at hok
  have hg := mz_w_get (tA := G.2.2) (ad := ad) (f := f) hlt
  rw [ha] at hg
  have hlt2 : i.toNatClampNeg < N := Nat.not_le.mp fun q => hi (Or.inr q)
  have hcell : H[ad a]? = some (arrV (G.2.2 t) N (fun j => va_rf ((g j).map ad))) := rP a _ hg
  refine W.aald (v := va_rf ((g i.toNatClampNeg).map ad)) (ty := ty) hx hb hcell ((hK.2 t _ (mz_ty_get ht)).1 N (fun j => va_rf ((g j).map ad))) hrt (fun q => by cases q) (by rw [arrV_size]; exact hi) (by rw [arrV_read _ _ hlt2]) rfl rfl hd ?_
  rw [← mz_v_rf]
  exact (h hk1 hk2 hol (mz_okS_c (mz_okV_rf (fun z hz => hok _ z hz)) (mz_okS_tl (mz_okS_tl hos))) p e s m args below meth c A H locs ls ad ad0 n0 ok rep hl)
theorem mz_aast {a b N t ci : Nat} {g : Nat → Option Nat} {vs : List Value} {cl : vw_C} {i : Int32} (hd : decode cc pc = .ok (.aastore, 1)) (ha : f a = .inl (t, N, .inr (.inr (.inr (.inr g))))) (hb2 : f b = .inr (ci, vs)) (hc : nm_Cl[ci]? = some cl) (ht : nm_Ty[t]? = some (.object cl.1)) (hi : vp_in i N) (h : mz_X G X cn ini cc nL ret rm post thr (pc + 1) (l) (r) k1 k2 n (mz_u f a (.inl (t, N, .inr (.inr (.inr (.inr (va_up g i.toNatClampNeg (some b))))))))) : mz_X G X cn ini cc nL ret rm post thr (pc) (l) (.ref b :: .int i :: .ref a :: r) k1 k2 n (f) := by
  intro hk1 hk2 hol hos p e s m args below meth c A H locs ls ad ad0 n0 ok rep hl
  obtain ⟨hx, hb, hml, hr, hown, hin, hlocks, hts, hns, hK, hA⟩ := id ok
  obtain ⟨rP, rD, rS, rW, rN, rA, rX⟩ := id rep
  have hnd : f a ≠ mz_d := by rw [ha]; exact fun q => by cases q
  have hlt : a < n := mz_wf_lt rW hnd
  have hbl : b < n := by
    rcases mz_okS_hd hos with q | q
    · exact q
    · exfalso
      have h1 := rW.2.2 b (Nat.le_trans rW.1 q)
      rw [h1] at hb2
      have h2 : ci = 1000 := by injection hb2 with h2; injection h2 with h2; exact h2.symm
      rw [h2] at hc
      exact absurd hc nm_Cl_1000
  have hok := rW.2.1 a
  rw [ha] at hok
  have hg := mz_w_get (tA := G.2.2) (ad := ad) (f := f) hlt
  rw [ha] at hg
  have hgb := mz_w_get (tA := G.2.2) (ad := ad) (f := f) hbl
  rw [hb2] at hgb
  refine va_astq hx hb hK rP rD rS a t b ci hg (mz_ty_get ht) hgb hc hi hd (fun H1 locs1 hP1 hD1 hS1 => ?_)
  have eW := mz_w_set (tA := G.2.2) (ad := ad) (n := n) (f := f) (k := a) (.inl (t, N, .inr (.inr (.inr (.inr (va_up g i.toNatClampNeg (some b)))))))
  have eF : (fun j => (va_up g i.toNatClampNeg (some b) j).map ad) = va_up (fun j => (g j).map ad) i.toNatClampNeg (some (ad b)) := by
    funext j
    by_cases q : j = i.toNatClampNeg
    · simp [va_up, q]
    · simp [va_up, q]
  have eE : mz_e G.2.2 ad (.inl (t, N, .inr (.inr (.inr (.inr (va_up g i.toNatClampNeg (some b)))))) : mz_C) = .inl (G.2.2 t, N, .inr (.inr (.inr (.inr (va_up (fun j => (g j).map ad) i.toNatClampNeg (some (ad b))))))) := by
    rw [← eF]; rfl
  rw [eE] at eW
  exact h hk1 hk2 hol (mz_okS_tl (mz_okS_tl (mz_okS_tl hos))) p e s m args below meth c A H1 locs1 ls ad ad0 n0 ok ⟨by rw [← eW]; exact hP1, by rw [← eW]; exact hD1, hS1, mz_wf_u rW hnd (fun j z hz => by
    by_cases q : j = i.toNatClampNeg
    · simp [va_up, q] at hz; omega
    · simp [va_up, q] at hz; exact hok j z hz), rN, rA, rX⟩ hl
theorem mz_alen {a : Nat} {q : Nat × vp_A} {ty : FieldType} (hd : decode cc pc = .ok (.arraylength, 1)) (ha : f a = .inl q) (ht : nm_Ty[q.1]? = some ty) (h : mz_X G X cn ini cc nL ret rm post thr (pc + 1) (l) (.int (Int32.ofNat q.2.1) :: r) k1 k2 n (f)) : mz_X G X cn ini cc nL ret rm post thr (pc) (l) (.ref a :: r) k1 k2 n (f) := by
  intro hk1 hk2 hol hos p e s m args below meth c A H locs ls ad ad0 n0 ok rep hl
  obtain ⟨hx, hb, hml, hr, hown, hin, hlocks, hts, hns, hK, hA⟩ := id ok
  obtain ⟨rP, rD, rS, rW, rN, rA, rX⟩ := id rep
  have hlt : a < n := mz_wf_lt rW (by rw [ha]; exact fun q => by cases q)
  have hg := mz_w_get (tA := G.2.2) (ad := ad) (f := f) hlt
  rw [ha] at hg
  have hz : (mz_a ad q.2).1 = q.2.1 := by
    obtain ⟨t, N, g | g | g | g | g⟩ := q <;> rfl
  exact va_alen hx hb hK rP a q.1 hg (mz_ty_get ht) (by rw [hz]) hd (h hk1 hk2 hol (mz_okS_c trivial (mz_okS_tl hos)) p e s m args below meth c A H locs ls ad ad0 n0 ok rep hl)
theorem mz_xald {a N : Nat} {g : Nat → Int32} {i : Int32} (hd : decode cc pc = .ok (.iaload, 1)) (ha : X a = some (N, g)) (hi : vp_in i N) (h : mz_X G X cn ini cc nL ret rm post thr (pc + 1) (l) (.int (g i.toNatClampNeg) :: r) k1 k2 n (f)) : mz_X G X cn ini cc nL ret rm post thr (pc) (l) (.int i :: .ref a :: r) k1 k2 n (f) := by
  intro hk1 hk2 hol hos p e s m args below meth c A H locs ls ad ad0 n0 ok rep hl
  obtain ⟨hx, hb, hml, hr, hown, hin, hlocks, hts, hns, hK, hA⟩ := id ok
  obtain ⟨rP, rD, rS, rW, rN, rA, rX⟩ := id rep
  exact va_ti hx hb (rX.1 a N g ha).2 rS hi rfl hd (h hk1 hk2 hol (mz_okS_c trivial (mz_okS_tl (mz_okS_tl hos))) p e s m args below meth c A H locs ls ad ad0 n0 ok rep hl)
theorem mz_xlen {a N : Nat} {g : Nat → Int32} (hd : decode cc pc = .ok (.arraylength, 1)) (ha : X a = some (N, g)) (h : mz_X G X cn ini cc nL ret rm post thr (pc + 1) (l) (.int (Int32.ofNat N) :: r) k1 k2 n (f)) : mz_X G X cn ini cc nL ret rm post thr (pc) (l) (.ref a :: r) k1 k2 n (f) := by
  intro hk1 hk2 hol hos p e s m args below meth c A H locs ls ad ad0 n0 ok rep hl
  obtain ⟨hx, hb, hml, hr, hown, hin, hlocks, hts, hns, hK, hA⟩ := id ok
  obtain ⟨rP, rD, rS, rW, rN, rA, rX⟩ := id rep
  exact va_tlen hx hb (rX.1 a N g ha).2 rS rfl hd (h hk1 hk2 hol (mz_okS_c trivial (mz_okS_tl hos)) p e s m args below meth c A H locs ls ad ad0 n0 ok rep hl)
theorem mz_get {a ci k idx : Nat} {fs : List Value} {v : Value} (hd : decode cc pc = .ok (.getfield idx, 3)) (hF : nm_Fld cn idx = some (ci, k)) (ha : f a = .inr (ci, fs)) (hv : fs[k]? = some v) (h : mz_X G X cn ini cc nL ret rm post thr (pc + 3) (l) (v :: r) k1 k2 n (f)) : mz_X G X cn ini cc nL ret rm post thr (pc) (l) (.ref a :: r) k1 k2 n (f) := by
  intro hk1 hk2 hol hos p e s m args below meth c A H locs ls ad ad0 n0 ok rep hl
  obtain ⟨hx, hb, hml, hr, hown, hin, hlocks, hts, hns, hK, hA⟩ := id ok
  obtain ⟨rP, rD, rS, rW, rN, rA, rX⟩ := id rep
  obtain ⟨C, T, N, hc, hk, hl2⟩ := nm_Fld_ok hF
  have hnd : f a ≠ mz_d := by
    rw [ha]; intro q
    injection q with q; injection q with q1 q2
    rw [q2] at hv; cases hv
  have hlt : a < n := mz_wf_lt rW hnd
  have hok := rW.2.1 a
  rw [ha] at hok
  have hg := mz_w_get (tA := G.2.2) (ad := ad) (f := f) hlt
  rw [ha] at hg
  have hv2 : (fs.map (mz_v ad))[k]? = some (mz_v ad v) := by rw [List.getElem?_map, hv]; rfl
  rcases hl2 with hl2 | hl2
  · exact va_get hx hb hts (nm_Cl_ws hc) hown hK rP a hg hc k hk (hts _ hl2) (fun _ h9 => h9) hv2 hd (h hk1 hk2 hol (mz_okS_c (hok v (List.mem_of_getElem? hv)) (mz_okS_tl hos)) p e s m args below meth c A H locs ls ad ad0 n0 ok rep hl)
  · exact va_getN hx hb hts (nm_Cl_ws hc) hown hK rP a hg hc k hk (va_Nw.use rfl (hns _ hl2)) (fun _ h9 => h9) hv2 hd (h hk1 hk2 hol (mz_okS_c (hok v (List.mem_of_getElem? hv)) (mz_okS_tl hos)) p e s m args below meth c A H locs ls ad ad0 n0 ok rep hl)
theorem mz_put {a ci k idx : Nat} {fs : List Value} {v : Value} (hd : decode cc pc = .ok (.putfield idx, 3)) (hF : nm_Fld cn idx = some (ci, k)) (ha : f a = .inr (ci, fs)) (hkl : k < fs.length) (hfn : nm_Fin ci k = false) (hfit : mz_fit (nm_FTy ci k) v) (h : mz_X G X cn ini cc nL ret rm post thr (pc + 3) (l) (r) k1 k2 n (mz_u f a (.inr (ci, fs.set k v)))) : mz_X G X cn ini cc nL ret rm post thr (pc) (l) (v :: .ref a :: r) k1 k2 n (f) := by
  intro hk1 hk2 hol hos p e s m args below meth c A H locs ls ad ad0 n0 ok rep hl
  obtain ⟨hx, hb, hml, hr, hown, hin, hlocks, hts, hns, hK, hA⟩ := id ok
  obtain ⟨rP, rD, rS, rW, rN, rA, rX⟩ := id rep
  obtain ⟨C, T, N, hc, hk, hl2⟩ := nm_Fld_ok hF
  have hnd : f a ≠ mz_d := by
    rw [ha]; intro q
    injection q with q; injection q with q1 q2
    rw [q2] at hkl; exact absurd hkl (Nat.not_lt_zero _)
  have hlt : a < n := mz_wf_lt rW hnd
  have hok := rW.2.1 a
  rw [ha] at hok
  have hg := mz_w_get (tA := G.2.2) (ad := ad) (f := f) hlt
  rw [ha] at hg
  have hft := mz_fit_v ad hfit
  have eW := mz_w_set (tA := G.2.2) (ad := ad) (n := n) (f := f) (k := a) (.inr (ci, fs.set k v))
  have eE : mz_e G.2.2 ad (.inr (ci, fs.set k v) : mz_C) = .inr (ci, (fs.map (mz_v ad)).set k (mz_v ad v)) := by
    show Sum.inr (ci, (fs.set k v).map (mz_v ad)) = _
    rw [List.map_set]
  rw [eE] at eW
  have hkl2 : k < (fs.map (mz_v ad)).length := by rw [List.length_map]; exact hkl
  have kk : ∀ (H1 : Heap) (locs1 : List Loc), va_P G.2.1 nm_Cl ((mz_w G.2.2 ad n f).set a (ad a, .inr (ci, (fs.map (mz_v ad)).set k (mz_v ad v)))) H1 → va_D A ((mz_w G.2.2 ad n f).set a (ad a, .inr (ci, (fs.map (mz_v ad)).set k (mz_v ad v)))) → va_S A s.heap H1 locs1 → W p G.1 e rm s m args below meth c H1 locs1 k1 k2 (mz_Z G rm below A ad0 n0 post thr args s) (F0 m (pc + 3) ls (r.map (mz_v ad))) := by
    intro H1 locs1 hP1 hD1 hS1
    exact h hk1 hk2 hol (mz_okS_tl (mz_okS_tl hos)) p e s m args below meth c A H1 locs1 ls ad ad0 n0 ok ⟨by rw [← eW]; exact hP1, by rw [← eW]; exact hD1, hS1, mz_wf_u rW hnd (fun w hw => by
      rcases List.mem_or_eq_of_mem_set hw with q | q
      · exact hok w q
      · rw [q]; exact mz_okS_hd hos), rN, rA, rX⟩ hl
  have hfin : (T k).2.2.2 = false := (nm_Fin_ok hc hk).symm.trans hfn
  rcases hl2 with hl2 | hl2
  · exact va_put hx hb hts (nm_Cl_ws hc) (nm_FTy ci) (nm_Cl_ty hc) (nm_Cl_nm hc) hown hK rP rD rS a hg hc k hk (hts _ hl2) (fun _ h9 => h9) hfin (nm_Cl_ty hc k hk) hft.1 hft.2 hkl2 hd kk
  · exact va_putN hx hb hts (nm_Cl_ws hc) (nm_FTy ci) (nm_Cl_ty hc) (nm_Cl_nm hc) hown hK rP rD rS a hg hc k hk (va_Nw.use rfl (hns _ hl2)) (fun _ h9 => h9) hfin (nm_Cl_ty hc k hk) hft.1 hft.2 hkl2 hd kk
theorem mz_putF {a k idx : Nat} {fs : List Value} {v : Value} (hini : ini = true) (hd : decode cc pc = .ok (.putfield idx, 3)) (hF : nm_Fld cn idx = some (cn, k)) (hFl : nm_FldF cn idx = true) (ha : f a = .inr (cn, fs)) (hkl : k < fs.length) (hfn : nm_Fin cn k = true) (hfit : mz_fit (nm_FTy cn k) v) (h : mz_X G X cn ini cc nL ret rm post thr (pc + 3) (l) (r) k1 k2 n (mz_u f a (.inr (cn, fs.set k v)))) : mz_X G X cn ini cc nL ret rm post thr (pc) (l) (v :: .ref a :: r) k1 k2 n (f) := by
  intro hk1 hk2 hol hos p e s m args below meth c A H locs ls ad ad0 n0 ok rep hl
  obtain ⟨hx, hb, hml, hr, hown, hin, hlocks, hts, hns, hK, hA⟩ := id ok
  obtain ⟨rP, rD, rS, rW, rN, rA, rX⟩ := id rep
  obtain ⟨C, T, N, hc, hk, hl2⟩ := nm_FldF_ok hF hFl
  have hnd : f a ≠ mz_d := by
    rw [ha]; intro q
    injection q with q; injection q with q1 q2
    rw [q2] at hkl; exact absurd hkl (Nat.not_lt_zero _)
  have hlt : a < n := mz_wf_lt rW hnd
  have hok := rW.2.1 a
  rw [ha] at hok
  have hg := mz_w_get (tA := G.2.2) (ad := ad) (f := f) hlt
  rw [ha] at hg
  have hft := mz_fit_v ad hfit
  have eW := mz_w_set (tA := G.2.2) (ad := ad) (n := n) (f := f) (k := a) (.inr (cn, fs.set k v))
  have eE : mz_e G.2.2 ad (.inr (cn, fs.set k v) : mz_C) = .inr (cn, (fs.map (mz_v ad)).set k (mz_v ad v)) := by
    show Sum.inr (cn, (fs.set k v).map (mz_v ad)) = _
    rw [List.map_set]
  rw [eE] at eW
  have hkl2 : k < (fs.map (mz_v ad)).length := by rw [List.length_map]; exact hkl
  have kk : ∀ (H1 : Heap) (locs1 : List Loc), va_P G.2.1 nm_Cl ((mz_w G.2.2 ad n f).set a (ad a, .inr (cn, (fs.map (mz_v ad)).set k (mz_v ad v)))) H1 → va_D A ((mz_w G.2.2 ad n f).set a (ad a, .inr (cn, (fs.map (mz_v ad)).set k (mz_v ad v)))) → va_S A s.heap H1 locs1 → W p G.1 e rm s m args below meth c H1 locs1 k1 k2 (mz_Z G rm below A ad0 n0 post thr args s) (F0 m (pc + 3) ls (r.map (mz_v ad))) := by
    intro H1 locs1 hP1 hD1 hS1
    exact h hk1 hk2 hol (mz_okS_tl (mz_okS_tl hos)) p e s m args below meth c A H1 locs1 ls ad ad0 n0 ok ⟨by rw [← eW]; exact hP1, by rw [← eW]; exact hD1, hS1, mz_wf_u rW hnd (fun w hw => by
      rcases List.mem_or_eq_of_mem_set hw with q | q
      · exact hok w q
      · rw [q]; exact mz_okS_hd hos), rN, rA, rX⟩ hl
  have hfin : (T k).2.2.2 = true := (nm_Fin_ok hc hk).symm.trans hfn
  exact va_putF hx hb hts (nm_Cl_ws hc) (nm_FTy cn) (nm_Cl_ty hc) (nm_Cl_nm hc) hown hK rP rD rS a hg hc k hk (hts _ hl2) (fun _ h9 => h9) hfin (hin hini) (nm_Cl_own hc k hk) (nm_Cl_ty hc k hk) hft.1 hft.2 hkl2 hd kk
theorem mz_gets {a idx : Nat} (hd : decode cc pc = .ok (.getstatic idx, 3)) (hF : nm_Sta cn idx = some a) (hX : X a ≠ none) (h : mz_X G X cn ini cc nL ret rm post thr (pc + 3) (l) (.ref a :: r) k1 k2 n (f)) : mz_X G X cn ini cc nL ret rm post thr (pc) (l) (r) k1 k2 n (f) := by
  intro hk1 hk2 hol hos p e s m args below meth c A H locs ls ad ad0 n0 ok rep hl
  obtain ⟨hx, hb, hml, hr, hown, hin, hlocks, hts, hns, hK, hA⟩ := id ok
  obtain ⟨rP, rD, rS, rW, rN, rA, rX⟩ := id rep
  obtain ⟨q, hq, rfl, hl2⟩ := nm_Sta_ok hF
  have hz := rX.2.1 q hq hX
  have ha : mz_e0 ≤ q.1 := by
    cases hE : X q.1 with
    | none => exact absurd hE hX
    | some w => exact (rX.1 q.1 w.1 w.2 hE).1
  rcases hl2 with hl2 | hl2
  · exact va_gets hx hb hz rS hown (hts _ hl2) (fun _ h9 => h9) hd (h hk1 hk2 hol (mz_okS_c (Or.inr ha) hos) p e s m args below meth c A H locs ls ad ad0 n0 ok rep hl)
  · exact va_getsN hx hb hz rS hown (va_Nw.use rfl (hns _ hl2)) (fun _ h9 => h9) hd (h hk1 hk2 hol (mz_okS_c (Or.inr ha) hos) p e s m args below meth c A H locs ls ad ad0 n0 ok rep hl)
theorem mz_ldc {idx : Nat} {v : Int32} (hd : decode cc pc = .ok (.ldc idx, 2)) (hF : Jvm.Cond.constant (nm_Own cn) idx v ∈ nm_Ts) (h : mz_X G X cn ini cc nL ret rm post thr (pc + 2) (l) (.int v :: r) k1 k2 n (f)) : mz_X G X cn ini cc nL ret rm post thr (pc) (l) (r) k1 k2 n (f) := by
  intro hk1 hk2 hol hos p e s m args below meth c A H locs ls ad ad0 n0 ok rep hl
  obtain ⟨hx, hb, hml, hr, hown, hin, hlocks, hts, hns, hK, hA⟩ := id ok
  exact lv_ldc hx hb hown (hts _ hF) hd (h hk1 hk2 hol (mz_okS_c trivial hos) p e s m args below meth c A H locs ls ad ad0 n0 ok rep hl)
theorem mz_ldc2 {idx : Nat} {v : Int64} (hd : decode cc pc = .ok (.ldc2_w idx, 3)) (hF : Jvm.Cond.constantLong (nm_Own cn) idx v ∈ nm_Ts) (h : mz_X G X cn ini cc nL ret rm post thr (pc + 3) (l) (.long v :: r) k1 k2 n (f)) : mz_X G X cn ini cc nL ret rm post thr (pc) (l) (r) k1 k2 n (f) := by
  intro hk1 hk2 hol hos p e s m args below meth c A H locs ls ad ad0 n0 ok rep hl
  obtain ⟨hx, hb, hml, hr, hown, hin, hlocks, hts, hns, hK, hA⟩ := id ok
  exact lv_ldc2 hx hb hown (hts _ hF) hd (h hk1 hk2 hol (mz_okS_c trivial hos) p e s m args below meth c A H locs ls ad ad0 n0 ok rep hl)
end MZ
end
section
/-- what an instruction asks, and where it leads: calls, new cells, switches and throws aside -/
def mz_S (X : mz_E) (cn : Nat) (ini : Bool) (nL : Nat) (ret : Option FieldType) (ins : Jvm.ClassFile.Instr) (len pc : Nat) (l : mz_L) (st : List Value) (f : mz_H) (K : Nat → mz_L → List Value → mz_H → Prop) (P : Option Value → Prop) : Prop :=
  match ins with
  | .iconst i => len = 1 ∧ K (pc + 1) (l) (.int (Int32.ofInt i) :: st) (f)
  | .bipush i => len = 2 ∧ K (pc + 2) (l) (.int (Int8.ofInt i).toInt32 :: st) (f)
  | .sipush i => len = 3 ∧ K (pc + 3) (l) (.int (Int16.ofInt i).toInt32 :: st) (f)
  | .lconst i => len = 1 ∧ K (pc + 1) (l) (.long (Int64.ofNat (i : Nat)) :: st) (f)
  | .aconst_null => len = 1 ∧ K (pc + 1) (l) (.null :: st) (f)
  | .iadd => len = 1 ∧ (match st with
      | .int y :: .int x :: r => K (pc + 1) (l) (.int (x + y) :: r) (f)
      | _ => False)
  | .isub => len = 1 ∧ (match st with
      | .int y :: .int x :: r => K (pc + 1) (l) (.int (x - y) :: r) (f)
      | _ => False)
  | .imul => len = 1 ∧ (match st with
      | .int y :: .int x :: r => K (pc + 1) (l) (.int (x * y) :: r) (f)
      | _ => False)
  | .iand => len = 1 ∧ (match st with
      | .int y :: .int x :: r => K (pc + 1) (l) (.int (x &&& y) :: r) (f)
      | _ => False)
  | .ior => len = 1 ∧ (match st with
      | .int y :: .int x :: r => K (pc + 1) (l) (.int (x ||| y) :: r) (f)
      | _ => False)
  | .ixor => len = 1 ∧ (match st with
      | .int y :: .int x :: r => K (pc + 1) (l) (.int (x ^^^ y) :: r) (f)
      | _ => False)
  | .ishl => len = 1 ∧ (match st with
      | .int y :: .int x :: r => K (pc + 1) (l) (.int (x <<< (y &&& 31)) :: r) (f)
      | _ => False)
  | .ishr => len = 1 ∧ (match st with
      | .int y :: .int x :: r => K (pc + 1) (l) (.int (x >>> (y &&& 31)) :: r) (f)
      | _ => False)
  | .idiv => len = 1 ∧ (match st with
      | .int y :: .int x :: r => (¬ y = 0) ∧ K (pc + 1) (l) (.int (x / y) :: r) (f)
      | _ => False)
  | .irem => len = 1 ∧ (match st with
      | .int y :: .int x :: r => (¬ y = 0) ∧ K (pc + 1) (l) (.int (x - x / y * y) :: r) (f)
      | _ => False)
  | .ladd => len = 1 ∧ (match st with
      | .long y :: .long x :: r => K (pc + 1) (l) (.long (x + y) :: r) (f)
      | _ => False)
  | .lsub => len = 1 ∧ (match st with
      | .long y :: .long x :: r => K (pc + 1) (l) (.long (x - y) :: r) (f)
      | _ => False)
  | .lmul => len = 1 ∧ (match st with
      | .long y :: .long x :: r => K (pc + 1) (l) (.long (x * y) :: r) (f)
      | _ => False)
  | .land => len = 1 ∧ (match st with
      | .long y :: .long x :: r => K (pc + 1) (l) (.long (x &&& y) :: r) (f)
      | _ => False)
  | .lor => len = 1 ∧ (match st with
      | .long y :: .long x :: r => K (pc + 1) (l) (.long (x ||| y) :: r) (f)
      | _ => False)
  | .lxor => len = 1 ∧ (match st with
      | .long y :: .long x :: r => K (pc + 1) (l) (.long (x ^^^ y) :: r) (f)
      | _ => False)
  | .ldiv => len = 1 ∧ (match st with
      | .long y :: .long x :: r => (¬ y = 0) ∧ K (pc + 1) (l) (.long (x / y) :: r) (f)
      | _ => False)
  | .lrem => len = 1 ∧ (match st with
      | .long y :: .long x :: r => (¬ y = 0) ∧ K (pc + 1) (l) (.long (x - x / y * y) :: r) (f)
      | _ => False)
  | .lcmp => len = 1 ∧ (match st with
      | .long y :: .long x :: r => K (pc + 1) (l) (.int (lg_cmp x y) :: r) (f)
      | _ => False)
  | .lshl => len = 1 ∧ (match st with
      | .int y :: .long x :: r => K (pc + 1) (l) (.long (x <<< (y.toInt64 &&& 63)) :: r) (f)
      | _ => False)
  | .lshr => len = 1 ∧ (match st with
      | .int y :: .long x :: r => K (pc + 1) (l) (.long (x >>> (y.toInt64 &&& 63)) :: r) (f)
      | _ => False)
  | .lushr => len = 1 ∧ (match st with
      | .int y :: .long x :: r => K (pc + 1) (l) (.long (x.toUInt64 >>> (y.toInt64.toUInt64 &&& Int64.toUInt64 63)).toInt64 :: r) (f)
      | _ => False)
  | .ineg => len = 1 ∧ (match st with
      | .int x :: r => K (pc + 1) (l) (.int (-x) :: r) (f)
      | _ => False)
  | .i2l => len = 1 ∧ (match st with
      | .int x :: r => K (pc + 1) (l) (.long x.toInt64 :: r) (f)
      | _ => False)
  | .l2i => len = 1 ∧ (match st with
      | .long x :: r => K (pc + 1) (l) (.int x.toInt32 :: r) (f)
      | _ => False)
  | .i2b => len = 1 ∧ (match st with
      | .int x :: r => K (pc + 1) (l) (.int x.toInt8.toInt32 :: r) (f)
      | _ => False)
  | .i2s => len = 1 ∧ (match st with
      | .int x :: r => K (pc + 1) (l) (.int x.toInt16.toInt32 :: r) (f)
      | _ => False)
  | .dup => len = 1 ∧ (match st with
      | v :: r => v.category = 1 ∧ K (pc + 1) (l) (v :: v :: r) (f)
      | _ => False)
  | .pop => len = 1 ∧ (match st with
      | v :: r => v.category = 1 ∧ K (pc + 1) (l) (r) (f)
      | _ => False)
  | .dup_x1 => len = 1 ∧ (match st with
      | v :: w :: r => v.category = 1 ∧ w.category = 1 ∧ K (pc + 1) (l) (v :: w :: v :: r) (f)
      | _ => False)
  | .dup2 => len = 1 ∧ (match st with
      | v :: w :: r => v.category = 1 ∧ w.category = 1 ∧ K (pc + 1) (l) (v :: w :: v :: w :: r) (f)
      | _ => False)
  | .iload i => len = 2 ∧ (match l[i]? with
      | some (some (.int x)) => K (pc + 2) (l) (.int x :: st) (f)
      | _ => False)
  | .iload_n i => len = 1 ∧ (match l[i.val]? with
      | some (some (.int x)) => K (pc + 1) (l) (.int x :: st) (f)
      | _ => False)
  | .lload i => len = 2 ∧ (match l[i]? with
      | some (some (.long x)) => K (pc + 2) (l) (.long x :: st) (f)
      | _ => False)
  | .lload_n i => len = 1 ∧ (match l[i.val]? with
      | some (some (.long x)) => K (pc + 1) (l) (.long x :: st) (f)
      | _ => False)
  | .aload i => len = 2 ∧ (match l[i]? with
      | some (some (.ref x)) => K (pc + 2) (l) (.ref x :: st) (f)
      | some (some .null) => K (pc + 2) (l) (.null :: st) (f)
      | _ => False)
  | .aload_n i => len = 1 ∧ (match l[i.val]? with
      | some (some (.ref x)) => K (pc + 1) (l) (.ref x :: st) (f)
      | some (some .null) => K (pc + 1) (l) (.null :: st) (f)
      | _ => False)
  | .istore i => len = 2 ∧ i < nL ∧ (match st with
      | .int x :: r => K (pc + 2) (mz_s1 l i (.int x)) (r) (f)
      | _ => False)
  | .istore_n i => len = 1 ∧ i.val < nL ∧ (match st with
      | .int x :: r => K (pc + 1) (mz_s1 l i.val (.int x)) (r) (f)
      | _ => False)
  | .lstore i => len = 2 ∧ i + 1 < nL ∧ (match st with
      | .long x :: r => K (pc + 2) (mz_s2 l i (.long x)) (r) (f)
      | _ => False)
  | .lstore_n i => len = 1 ∧ i.val + 1 < nL ∧ (match st with
      | .long x :: r => K (pc + 1) (mz_s2 l i.val (.long x)) (r) (f)
      | _ => False)
  | .astore i => len = 2 ∧ i < nL ∧ (match st with
      | .ref x :: r => K (pc + 2) (mz_s1 l i (.ref x)) (r) (f)
      | .null :: r => K (pc + 2) (mz_s1 l i .null) (r) (f)
      | _ => False)
  | .astore_n i => len = 1 ∧ i.val < nL ∧ (match st with
      | .ref x :: r => K (pc + 1) (mz_s1 l i.val (.ref x)) (r) (f)
      | .null :: r => K (pc + 1) (mz_s1 l i.val .null) (r) (f)
      | _ => False)
  | .iinc i d => len = 3 ∧ i < nL ∧ (match l[i]? with
      | some (some (.int x)) => K (pc + 3) (mz_s1 l i (.int (x + Int32.ofInt d))) (st) (f)
      | _ => False)
  | .ifCond .eq off => len = 3 ∧ 0 ≤ (pc : Int) + off ∧ (match st with
      | .int x :: r => (x = 0 → K (mz_t pc off) (l) (r) (f)) ∧ (¬ x = 0 → K (pc + 3) (l) (r) (f))
      | _ => False)
  | .if_icmp .eq off => len = 3 ∧ 0 ≤ (pc : Int) + off ∧ (match st with
      | .int y :: .int x :: r => (x = y → K (mz_t pc off) (l) (r) (f)) ∧ (¬ x = y → K (pc + 3) (l) (r) (f))
      | _ => False)
  | .ifCond .ne off => len = 3 ∧ 0 ≤ (pc : Int) + off ∧ (match st with
      | .int x :: r => (¬ x = 0 → K (mz_t pc off) (l) (r) (f)) ∧ (x = 0 → K (pc + 3) (l) (r) (f))
      | _ => False)
  | .if_icmp .ne off => len = 3 ∧ 0 ≤ (pc : Int) + off ∧ (match st with
      | .int y :: .int x :: r => (¬ x = y → K (mz_t pc off) (l) (r) (f)) ∧ (x = y → K (pc + 3) (l) (r) (f))
      | _ => False)
  | .ifCond .lt off => len = 3 ∧ 0 ≤ (pc : Int) + off ∧ (match st with
      | .int x :: r => (x < 0 → K (mz_t pc off) (l) (r) (f)) ∧ (¬ x < 0 → K (pc + 3) (l) (r) (f))
      | _ => False)
  | .if_icmp .lt off => len = 3 ∧ 0 ≤ (pc : Int) + off ∧ (match st with
      | .int y :: .int x :: r => (x < y → K (mz_t pc off) (l) (r) (f)) ∧ (¬ x < y → K (pc + 3) (l) (r) (f))
      | _ => False)
  | .ifCond .ge off => len = 3 ∧ 0 ≤ (pc : Int) + off ∧ (match st with
      | .int x :: r => (0 ≤ x → K (mz_t pc off) (l) (r) (f)) ∧ (¬ 0 ≤ x → K (pc + 3) (l) (r) (f))
      | _ => False)
  | .if_icmp .ge off => len = 3 ∧ 0 ≤ (pc : Int) + off ∧ (match st with
      | .int y :: .int x :: r => (y ≤ x → K (mz_t pc off) (l) (r) (f)) ∧ (¬ y ≤ x → K (pc + 3) (l) (r) (f))
      | _ => False)
  | .ifCond .gt off => len = 3 ∧ 0 ≤ (pc : Int) + off ∧ (match st with
      | .int x :: r => (0 < x → K (mz_t pc off) (l) (r) (f)) ∧ (¬ 0 < x → K (pc + 3) (l) (r) (f))
      | _ => False)
  | .if_icmp .gt off => len = 3 ∧ 0 ≤ (pc : Int) + off ∧ (match st with
      | .int y :: .int x :: r => (y < x → K (mz_t pc off) (l) (r) (f)) ∧ (¬ y < x → K (pc + 3) (l) (r) (f))
      | _ => False)
  | .ifCond .le off => len = 3 ∧ 0 ≤ (pc : Int) + off ∧ (match st with
      | .int x :: r => (x ≤ 0 → K (mz_t pc off) (l) (r) (f)) ∧ (¬ x ≤ 0 → K (pc + 3) (l) (r) (f))
      | _ => False)
  | .if_icmp .le off => len = 3 ∧ 0 ≤ (pc : Int) + off ∧ (match st with
      | .int y :: .int x :: r => (x ≤ y → K (mz_t pc off) (l) (r) (f)) ∧ (¬ x ≤ y → K (pc + 3) (l) (r) (f))
      | _ => False)
  | .goto off => len = 3 ∧ 0 ≤ (pc : Int) + off ∧ K (mz_t pc off) (l) (st) (f)
  | .ifnull off => len = 3 ∧ (match st with
      | .ref _ :: r => K (pc + 3) (l) (r) (f)
      | .null :: r => 0 ≤ (pc : Int) + off ∧ K (mz_t pc off) (l) (r) (f)
      | _ => False)
  | .ifnonnull off => len = 3 ∧ (match st with
      | .ref _ :: r => 0 ≤ (pc : Int) + off ∧ K (mz_t pc off) (l) (r) (f)
      | .null :: r => K (pc + 3) (l) (r) (f)
      | _ => False)
  | .ireturn => len = 1 ∧ (match st, ret with
      | [.int x], some ty => narrow ty (.int x) = .int x ∧ P (some (.int x))
      | _, _ => False)
  | .lreturn => len = 1 ∧ (match st, ret with
      | [.long x], some .long => P (some (.long x))
      | _, _ => False)
  | .areturn => len = 1 ∧ (match st, ret with
      | [.ref x], some (.object _) => P (some (.ref x))
      | [.null], some (.object _) => P (some .null)
      | _, _ => False)
  | .return_ => len = 1 ∧ (match st, ret with
      | [], none => P none
      | _, _ => False)
  | .iaload => len = 1 ∧ (match st with
      | .int i :: .ref a :: r => (match f a with
        | .inl (0, N, .inl g) => vp_in i N ∧ K (pc + 1) (l) (.int (g i.toNatClampNeg) :: r) (f)
        | .inr _ => (match X a with
          | some (N, g) => vp_in i N ∧ K (pc + 1) (l) (.int (g i.toNatClampNeg) :: r) (f)
          | none => False)
        | _ => False)
      | _ => False)
  | .baload => len = 1 ∧ (match st with
      | .int i :: .ref a :: r => (match f a with
        | .inl (1, N, .inl g) => vp_in i N ∧ K (pc + 1) (l) (.int (g i.toNatClampNeg) :: r) (f)
        | _ => False)
      | _ => False)
  | .saload => len = 1 ∧ (match st with
      | .int i :: .ref a :: r => (match f a with
        | .inl (2, N, .inl g) => vp_in i N ∧ K (pc + 1) (l) (.int (g i.toNatClampNeg) :: r) (f)
        | _ => False)
      | _ => False)
  | .laload => len = 1 ∧ (match st with
      | .int i :: .ref a :: r => (match f a with
        | .inl (3, N, .inr (.inl g)) => vp_in i N ∧ K (pc + 1) (l) (.long (g i.toNatClampNeg) :: r) (f)
        | _ => False)
      | _ => False)
  | .iastore => len = 1 ∧ (match st with
      | .int x :: .int i :: .ref a :: r => (match f a with
        | .inl (0, N, .inl g) => vp_in i N ∧ K (pc + 1) (l) (r) (mz_u f a (.inl (0, N, .inl (upd g i.toNatClampNeg x))))
        | _ => False)
      | _ => False)
  | .bastore => len = 1 ∧ (match st with
      | .int x :: .int i :: .ref a :: r => (match f a with
        | .inl (1, N, .inl g) => vp_in i N ∧ K (pc + 1) (l) (r) (mz_u f a (.inl (1, N, .inl (upd g i.toNatClampNeg (vp_nar .byte x)))))
        | _ => False)
      | _ => False)
  | .sastore => len = 1 ∧ (match st with
      | .int x :: .int i :: .ref a :: r => (match f a with
        | .inl (2, N, .inl g) => vp_in i N ∧ K (pc + 1) (l) (r) (mz_u f a (.inl (2, N, .inl (upd g i.toNatClampNeg (vp_nar .short x)))))
        | _ => False)
      | _ => False)
  | .lastore => len = 1 ∧ (match st with
      | .long x :: .int i :: .ref a :: r => (match f a with
        | .inl (3, N, .inr (.inl g)) => vp_in i N ∧ K (pc + 1) (l) (r) (mz_u f a (.inl (3, N, .inr (.inl (vp_updL g i.toNatClampNeg x)))))
        | _ => False)
      | _ => False)
  | .aaload => len = 1 ∧ (match st with
      | .int i :: .ref a :: r => (match f a with
        | .inl (t, N, .inr (.inr (.inr (.inr g)))) => vp_in i N ∧ (match nm_Ty[t]? with
          | some ty => ty.isReference = true ∧ K (pc + 1) (l) (va_rf (g i.toNatClampNeg) :: r) (f)
          | none => False)
        | _ => False)
      | _ => False)
  | .aastore => len = 1 ∧ (match st with
      | .ref b :: .int i :: .ref a :: r => (match f a with
        | .inl (t, N, .inr (.inr (.inr (.inr g)))) => vp_in i N ∧ (match f b with
          | .inr (ci, _) => (match nm_Cl[ci]? with
            | some cl => nm_Ty[t]? = some (.object cl.1) ∧ K (pc + 1) (l) (r) (mz_u f a (.inl (t, N, .inr (.inr (.inr (.inr (va_up g i.toNatClampNeg (some b))))))))
            | none => False)
          | _ => False)
        | _ => False)
      | _ => False)
  | .arraylength => len = 1 ∧ (match st with
      | .ref a :: r => (match f a with
        | .inl q => (match nm_Ty[q.1]? with
          | some _ => K (pc + 1) (l) (.int (Int32.ofNat q.2.1) :: r) (f)
          | none => False)
        | .inr _ => (match X a with
          | some (N, _) => K (pc + 1) (l) (.int (Int32.ofNat N) :: r) (f)
          | none => False))
      | _ => False)
  | .getfield idx => len = 3 ∧ (match st with
      | .ref a :: r => (match nm_Fld cn idx with
        | some (ci, k) => (match f a with
          | .inr (ci', fs) => ci' = ci ∧ (match fs[k]? with
            | some v => K (pc + 3) (l) (v :: r) (f)
            | none => False)
          | _ => False)
        | none => False)
      | _ => False)
  | .putfield idx => len = 3 ∧ (match st with
      | v :: .ref a :: r => (match nm_Fld cn idx with
        | some (ci, k) => (match f a with
          | .inr (ci', fs) => ci' = ci ∧ k < fs.length ∧ mz_fit (nm_FTy ci k) v ∧ (nm_Fin ci k = false ∨ nm_Fin ci k = true ∧ ini = true ∧ ci = cn ∧ nm_FldF cn idx = true) ∧ K (pc + 3) (l) (r) (mz_u f a (.inr (ci, fs.set k v)))
          | _ => False)
        | none => False)
      | _ => False)
  | .getstatic idx => len = 3 ∧ (match nm_Sta cn idx with
      | some a => X a ≠ none ∧ K (pc + 3) (l) (.ref a :: st) (f)
      | none => False)
  | .ldc idx => len = 2 ∧ (match nm_Con cn idx with
      | some v => K (pc + 2) (l) (.int v :: st) (f)
      | none => False)
  | .ldc2_w idx => len = 3 ∧ (match nm_ConL cn idx with
      | some v => K (pc + 3) (l) (.long v :: st) (f)
      | none => False)
  | _ => False
section MZ2
variable {G : mz_G} {X : mz_E} {cn : Nat} {ini : Bool} {cc : ByteArray} {nL : Nat} {ret : Option FieldType} {rm : Room} {post : Option Value → Nat → mz_H → Prop} {thr : String → Nat → mz_H → Prop} {pc : Nat} {l : mz_L} {st : List Value} {k1 k2 n : Nat} {f : mz_H}
set_option maxHeartbeats 4000000 in
theorem mz_step {ins : Jvm.ClassFile.Instr} {len : Nat} {K : Nat → mz_L → List Value → mz_H → Prop} {P : Option Value → Prop} (hd : decode cc pc = .ok (ins, len)) (hK : ∀ pc' l' st' f', K pc' l' st' f' → mz_X G X cn ini cc nL ret rm post thr pc' l' st' k1 k2 n f') (hP : ∀ v, P v → post v n f) (h : mz_S X cn ini nL ret ins len pc l st f K P) : mz_X G X cn ini cc nL ret rm post thr pc l st k1 k2 n f := by
  unfold mz_S at h
  split at h
  · obtain ⟨rfl, h⟩ := h
    exact mz_iconst hd (hK _ _ _ _ h)
  · obtain ⟨rfl, h⟩ := h
    exact mz_bipush hd (hK _ _ _ _ h)
  · obtain ⟨rfl, h⟩ := h
    exact mz_sipush hd (hK _ _ _ _ h)
  · obtain ⟨rfl, h⟩ := h
    exact mz_lconst hd (hK _ _ _ _ h)
  · obtain ⟨rfl, h⟩ := h
    exact mz_null hd (hK _ _ _ _ h)
  · obtain ⟨rfl, h⟩ := h
    split at h
    · exact mz_iadd hd (hK _ _ _ _ h)
    · exact h.elim
  · obtain ⟨rfl, h⟩ := h
    split at h
    · exact mz_isub hd (hK _ _ _ _ h)
    · exact h.elim
  · obtain ⟨rfl, h⟩ := h
    split at h
    · exact mz_imul hd (hK _ _ _ _ h)
    · exact h.elim
  · obtain ⟨rfl, h⟩ := h
    split at h
    · exact mz_iand hd (hK _ _ _ _ h)
    · exact h.elim
  · obtain ⟨rfl, h⟩ := h
    split at h
    · exact mz_ior hd (hK _ _ _ _ h)
    · exact h.elim
  · obtain ⟨rfl, h⟩ := h
    split at h
    · exact mz_ixor hd (hK _ _ _ _ h)
    · exact h.elim
  · obtain ⟨rfl, h⟩ := h
    split at h
    · exact mz_ishl hd (hK _ _ _ _ h)
    · exact h.elim
  · obtain ⟨rfl, h⟩ := h
    split at h
    · exact mz_ishr hd (hK _ _ _ _ h)
    · exact h.elim
  · obtain ⟨rfl, h⟩ := h
    split at h
    · exact mz_idiv hd h.1 (hK _ _ _ _ h.2)
    · exact h.elim
  · obtain ⟨rfl, h⟩ := h
    split at h
    · exact mz_irem hd h.1 (hK _ _ _ _ h.2)
    · exact h.elim
  · obtain ⟨rfl, h⟩ := h
    split at h
    · exact mz_ladd hd (hK _ _ _ _ h)
    · exact h.elim
  · obtain ⟨rfl, h⟩ := h
    split at h
    · exact mz_lsub hd (hK _ _ _ _ h)
    · exact h.elim
  · obtain ⟨rfl, h⟩ := h
    split at h
    · exact mz_lmul hd (hK _ _ _ _ h)
    · exact h.elim
  · obtain ⟨rfl, h⟩ := h
    split at h
    · exact mz_land hd (hK _ _ _ _ h)
    · exact h.elim
  · obtain ⟨rfl, h⟩ := h
    split at h
    · exact mz_lor hd (hK _ _ _ _ h)
    · exact h.elim
  · obtain ⟨rfl, h⟩ := h
    split at h
    · exact mz_lxor hd (hK _ _ _ _ h)
    · exact h.elim
  · obtain ⟨rfl, h⟩ := h
    split at h
    · exact mz_ldiv hd h.1 (hK _ _ _ _ h.2)
    · exact h.elim
  · obtain ⟨rfl, h⟩ := h
    split at h
    · exact mz_lrem hd h.1 (hK _ _ _ _ h.2)
    · exact h.elim
  · obtain ⟨rfl, h⟩ := h
    split at h
    · exact mz_lcmp hd (hK _ _ _ _ h)
    · exact h.elim
  · obtain ⟨rfl, h⟩ := h
    split at h
    · exact mz_lshl hd (hK _ _ _ _ h)
    · exact h.elim
  · obtain ⟨rfl, h⟩ := h
    split at h
    · exact mz_lshr hd (hK _ _ _ _ h)
    · exact h.elim
  · obtain ⟨rfl, h⟩ := h
    split at h
    · exact mz_lushr hd (hK _ _ _ _ h)
    · exact h.elim
  · obtain ⟨rfl, h⟩ := h
    split at h
    · exact mz_ineg hd (hK _ _ _ _ h)
    · exact h.elim
  · obtain ⟨rfl, h⟩ := h
    split at h
    · exact mz_i2l hd (hK _ _ _ _ h)
    · exact h.elim
  · obtain ⟨rfl, h⟩ := h
    split at h
    · exact mz_l2i hd (hK _ _ _ _ h)
    · exact h.elim
  · obtain ⟨rfl, h⟩ := h
    split at h
    · exact mz_i2b hd (hK _ _ _ _ h)
    · exact h.elim
  · obtain ⟨rfl, h⟩ := h
    split at h
    · exact mz_i2s hd (hK _ _ _ _ h)
    · exact h.elim
  · obtain ⟨rfl, h⟩ := h
    split at h
    · exact mz_dup hd h.1 (hK _ _ _ _ h.2)
    · exact h.elim
  · obtain ⟨rfl, h⟩ := h
    split at h
    · exact mz_pop hd h.1 (hK _ _ _ _ h.2)
    · exact h.elim
  · obtain ⟨rfl, h⟩ := h
    split at h
    · exact mz_dup_x1 hd h.1 h.2.1 (hK _ _ _ _ h.2.2)
    · exact h.elim
  · obtain ⟨rfl, h⟩ := h
    split at h
    · exact mz_dup2 hd h.1 h.2.1 (hK _ _ _ _ h.2.2)
    · exact h.elim
  · obtain ⟨rfl, h⟩ := h
    split at h
    · rename_i hi
      exact mz_iload hd hi (hK _ _ _ _ h)
    · exact h.elim
  · obtain ⟨rfl, h⟩ := h
    split at h
    · rename_i hi
      exact mz_iload_n hd hi (hK _ _ _ _ h)
    · exact h.elim
  · obtain ⟨rfl, h⟩ := h
    split at h
    · rename_i hi
      exact mz_lload hd hi (hK _ _ _ _ h)
    · exact h.elim
  · obtain ⟨rfl, h⟩ := h
    split at h
    · rename_i hi
      exact mz_lload_n hd hi (hK _ _ _ _ h)
    · exact h.elim
  · obtain ⟨rfl, h⟩ := h
    split at h
    · rename_i hi
      exact mz_aload hd hi (hK _ _ _ _ h)
    · rename_i hi
      exact mz_aloadN hd hi (hK _ _ _ _ h)
    · exact h.elim
  · obtain ⟨rfl, h⟩ := h
    split at h
    · rename_i hi
      exact mz_aload_n hd hi (hK _ _ _ _ h)
    · rename_i hi
      exact mz_aload_nN hd hi (hK _ _ _ _ h)
    · exact h.elim
  · obtain ⟨rfl, hn, h⟩ := h
    split at h
    · exact mz_istore hd hn (hK _ _ _ _ h)
    · exact h.elim
  · obtain ⟨rfl, hn, h⟩ := h
    split at h
    · exact mz_istore_n hd hn (hK _ _ _ _ h)
    · exact h.elim
  · obtain ⟨rfl, hn, h⟩ := h
    split at h
    · exact mz_lstore hd hn (hK _ _ _ _ h)
    · exact h.elim
  · obtain ⟨rfl, hn, h⟩ := h
    split at h
    · exact mz_lstore_n hd hn (hK _ _ _ _ h)
    · exact h.elim
  · obtain ⟨rfl, hn, h⟩ := h
    split at h
    · exact mz_astore hd hn (hK _ _ _ _ h)
    · exact mz_astoreN hd hn (hK _ _ _ _ h)
    · exact h.elim
  · obtain ⟨rfl, hn, h⟩ := h
    split at h
    · exact mz_astore_n hd hn (hK _ _ _ _ h)
    · exact mz_astore_nN hd hn (hK _ _ _ _ h)
    · exact h.elim
  · obtain ⟨rfl, hn, h⟩ := h
    split at h
    · rename_i hi
      exact mz_iinc hd hi hn (hK _ _ _ _ h)
    · exact h.elim
  · obtain ⟨rfl, h0, h⟩ := h
    split at h
    · exact mz_if_eq hd h0 (fun q => hK _ _ _ _ (h.1 q)) (fun q => hK _ _ _ _ (h.2 q))
    · exact h.elim
  · obtain ⟨rfl, h0, h⟩ := h
    split at h
    · exact mz_icmp_eq hd h0 (fun q => hK _ _ _ _ (h.1 q)) (fun q => hK _ _ _ _ (h.2 q))
    · exact h.elim
  · obtain ⟨rfl, h0, h⟩ := h
    split at h
    · exact mz_if_ne hd h0 (fun q => hK _ _ _ _ (h.1 q)) (fun q => hK _ _ _ _ (h.2 q))
    · exact h.elim
  · obtain ⟨rfl, h0, h⟩ := h
    split at h
    · exact mz_icmp_ne hd h0 (fun q => hK _ _ _ _ (h.1 q)) (fun q => hK _ _ _ _ (h.2 q))
    · exact h.elim
  · obtain ⟨rfl, h0, h⟩ := h
    split at h
    · exact mz_if_lt hd h0 (fun q => hK _ _ _ _ (h.1 q)) (fun q => hK _ _ _ _ (h.2 q))
    · exact h.elim
  · obtain ⟨rfl, h0, h⟩ := h
    split at h
    · exact mz_icmp_lt hd h0 (fun q => hK _ _ _ _ (h.1 q)) (fun q => hK _ _ _ _ (h.2 q))
    · exact h.elim
  · obtain ⟨rfl, h0, h⟩ := h
    split at h
    · exact mz_if_ge hd h0 (fun q => hK _ _ _ _ (h.1 q)) (fun q => hK _ _ _ _ (h.2 q))
    · exact h.elim
  · obtain ⟨rfl, h0, h⟩ := h
    split at h
    · exact mz_icmp_ge hd h0 (fun q => hK _ _ _ _ (h.1 q)) (fun q => hK _ _ _ _ (h.2 q))
    · exact h.elim
  · obtain ⟨rfl, h0, h⟩ := h
    split at h
    · exact mz_if_gt hd h0 (fun q => hK _ _ _ _ (h.1 q)) (fun q => hK _ _ _ _ (h.2 q))
    · exact h.elim
  · obtain ⟨rfl, h0, h⟩ := h
    split at h
    · exact mz_icmp_gt hd h0 (fun q => hK _ _ _ _ (h.1 q)) (fun q => hK _ _ _ _ (h.2 q))
    · exact h.elim
  · obtain ⟨rfl, h0, h⟩ := h
    split at h
    · exact mz_if_le hd h0 (fun q => hK _ _ _ _ (h.1 q)) (fun q => hK _ _ _ _ (h.2 q))
    · exact h.elim
  · obtain ⟨rfl, h0, h⟩ := h
    split at h
    · exact mz_icmp_le hd h0 (fun q => hK _ _ _ _ (h.1 q)) (fun q => hK _ _ _ _ (h.2 q))
    · exact h.elim
  · obtain ⟨rfl, h0, h⟩ := h
    exact mz_goto hd h0 (hK _ _ _ _ h)
  · obtain ⟨rfl, h⟩ := h
    split at h
    · exact mz_ifnull hd (hK _ _ _ _ h)
    · exact mz_ifnullN hd h.1 (hK _ _ _ _ h.2)
    · exact h.elim
  · obtain ⟨rfl, h⟩ := h
    split at h
    · exact mz_ifnonnull hd h.1 (hK _ _ _ _ h.2)
    · exact mz_ifnonnullN hd (hK _ _ _ _ h)
    · exact h.elim
  · obtain ⟨rfl, h⟩ := h
    split at h
    · exact mz_ireturn hd rfl h.1 (hP _ h.2)
    · exact h.elim
  · obtain ⟨rfl, h⟩ := h
    split at h
    · exact mz_lreturn hd rfl (hP _ h)
    · exact h.elim
  · obtain ⟨rfl, h⟩ := h
    split at h
    · exact mz_areturn hd rfl (Or.inl ⟨_, rfl⟩) (Or.inr ⟨_, rfl⟩) (hP _ h)
    · exact mz_areturn hd rfl (Or.inl ⟨_, rfl⟩) (Or.inl rfl) (hP _ h)
    · exact h.elim
  · obtain ⟨rfl, h⟩ := h
    split at h
    · exact mz_return hd rfl (hP _ h)
    · exact h.elim
  · obtain ⟨rfl, h⟩ := h
    split at h
    · split at h
      · rename_i ha
        exact mz_iald hd ha h.1 (hK _ _ _ _ h.2)
      · split at h
        · rename_i ha
          exact mz_xald hd ha h.1 (hK _ _ _ _ h.2)
        · exact h.elim
      · exact h.elim
    · exact h.elim
  · obtain ⟨rfl, h⟩ := h
    split at h
    · split at h
      · rename_i ha
        exact mz_bald hd ha h.1 (hK _ _ _ _ h.2)
      · exact h.elim
    · exact h.elim
  · obtain ⟨rfl, h⟩ := h
    split at h
    · split at h
      · rename_i ha
        exact mz_sald hd ha h.1 (hK _ _ _ _ h.2)
      · exact h.elim
    · exact h.elim
  · obtain ⟨rfl, h⟩ := h
    split at h
    · split at h
      · rename_i ha
        exact mz_lald hd ha h.1 (hK _ _ _ _ h.2)
      · exact h.elim
    · exact h.elim
  · obtain ⟨rfl, h⟩ := h
    split at h
    · split at h
      · rename_i ha
        exact mz_iast hd ha h.1 (hK _ _ _ _ h.2)
      · exact h.elim
    · exact h.elim
  · obtain ⟨rfl, h⟩ := h
    split at h
    · split at h
      · rename_i ha
        exact mz_bast hd ha h.1 (hK _ _ _ _ h.2)
      · exact h.elim
    · exact h.elim
  · obtain ⟨rfl, h⟩ := h
    split at h
    · split at h
      · rename_i ha
        exact mz_sast hd ha h.1 (hK _ _ _ _ h.2)
      · exact h.elim
    · exact h.elim
  · obtain ⟨rfl, h⟩ := h
    split at h
    · split at h
      · rename_i ha
        exact mz_last hd ha h.1 (hK _ _ _ _ h.2)
      · exact h.elim
    · exact h.elim
  · obtain ⟨rfl, h⟩ := h
    split at h
    · split at h
      · rename_i ha
        obtain ⟨h1, h⟩ := h
        split at h
        · rename_i ht
          exact mz_aald hd ha ht h.1 h1 (hK _ _ _ _ h.2)
        · exact h.elim
      · exact h.elim
    · exact h.elim
  · obtain ⟨rfl, h⟩ := h
    split at h
    · split at h
      · rename_i ha
        obtain ⟨h1, h⟩ := h
        split at h
        · rename_i hb2
          split at h
          · rename_i hc
            exact mz_aast hd ha hb2 hc h.1 h1 (hK _ _ _ _ h.2)
          · exact h.elim
        · exact h.elim
      · exact h.elim
    · exact h.elim
  · obtain ⟨rfl, h⟩ := h
    split at h
    · split at h
      · rename_i ha
        split at h
        · rename_i ht
          exact mz_alen hd ha ht (hK _ _ _ _ h)
        · exact h.elim
      · split at h
        · rename_i ha
          exact mz_xlen hd ha (hK _ _ _ _ h)
        · exact h.elim
    · exact h.elim
  · obtain ⟨rfl, h⟩ := h
    split at h
    · split at h
      · rename_i hF
        split at h
        · rename_i ha
          obtain ⟨rfl, h⟩ := h
          split at h
          · rename_i hv
            exact mz_get hd hF ha hv (hK _ _ _ _ h)
          · exact h.elim
        · exact h.elim
      · exact h.elim
    · exact h.elim
  · obtain ⟨rfl, h⟩ := h
    split at h
    · split at h
      · rename_i hF
        split at h
        · rename_i ha
          obtain ⟨rfl, h1, h2, h3, h⟩ := h
          rcases h3 with h3 | ⟨h3, h4, rfl, h5⟩
          · exact mz_put hd hF ha h1 h3 h2 (hK _ _ _ _ h)
          · exact mz_putF h4 hd hF h5 ha h1 h3 h2 (hK _ _ _ _ h)
        · exact h.elim
      · exact h.elim
    · exact h.elim
  · obtain ⟨rfl, h⟩ := h
    split at h
    · rename_i hF
      exact mz_gets hd hF h.1 (hK _ _ _ _ h.2)
    · exact h.elim
  · obtain ⟨rfl, h⟩ := h
    split at h
    · rename_i hF
      exact mz_ldc hd (nm_Con_ok hF) (hK _ _ _ _ h)
    · exact h.elim
  · obtain ⟨rfl, h⟩ := h
    split at h
    · rename_i hF
      exact mz_ldc2 hd (nm_ConL_ok hF) (hK _ _ _ _ h)
    · exact h.elim
  · exact h.elim
/-- k steps, or until a place of S is come to -/
def mz_run (X : mz_E) (cn : Nat) (ini : Bool) (cc : ByteArray) (nL : Nat) (ret : Option FieldType) (S : List Nat) (K : Nat → mz_L → List Value → mz_H → Prop) (P : Option Value → mz_H → Prop) : Nat → Nat → mz_L → List Value → mz_H → Prop
  | 0, pc, l, st, f => K pc l st f
  | k + 1, pc, l, st, f => match decode cc pc with
    | .ok q => mz_S X cn ini nL ret q.1 q.2 pc l st f (fun pc' l' st' f' => if pc' ∈ S then K pc' l' st' f' else mz_run X cn ini cc nL ret S K P k pc' l' st' f') (fun v => P v f)
    | .error _ => False
theorem mz_go (S : List Nat) (k : Nat) (h : mz_run X cn ini cc nL ret S (fun pc' l' st' f' => mz_X G X cn ini cc nL ret rm post thr pc' l' st' k1 k2 n f') (fun v f' => post v n f') k pc l st f) : mz_X G X cn ini cc nL ret rm post thr pc l st k1 k2 n f := by
  induction k generalizing pc l st f with
  | zero => exact h
  | succ k ih =>
    unfold mz_run at h
    split at h
    · rename_i q hd
      refine mz_step hd ?_ (fun v hv => hv) h
      intro pc' l' st' f' hh
      split at hh
      · exact hh
      · exact ih hh
    · exact h.elim
end MZ2
section MZEV
variable {X : mz_E} {cn : Nat} {ini : Bool} {nL : Nat} {ret : Option FieldType} {pc : Nat} {l : mz_L} {st : List Value} {f : mz_H} {K : Nat → mz_L → List Value → mz_H → Prop} {P : Option Value → Prop}
theorem ev_0 {i : Int} : mz_S X cn ini nL ret (.iconst i) 1 pc l st f K P = (K (pc + 1) (l) (.int (Int32.ofInt i) :: st) (f)) := propext ⟨fun h => h.2, fun h => ⟨rfl, h⟩⟩
theorem ev_1 {i : Int} : mz_S X cn ini nL ret (.bipush i) 2 pc l st f K P = (K (pc + 2) (l) (.int (Int8.ofInt i).toInt32 :: st) (f)) := propext ⟨fun h => h.2, fun h => ⟨rfl, h⟩⟩
theorem ev_2 {i : Int} : mz_S X cn ini nL ret (.sipush i) 3 pc l st f K P = (K (pc + 3) (l) (.int (Int16.ofInt i).toInt32 :: st) (f)) := propext ⟨fun h => h.2, fun h => ⟨rfl, h⟩⟩
theorem ev_3 {i : Fin 2} : mz_S X cn ini nL ret (.lconst i) 1 pc l st f K P = (K (pc + 1) (l) (.long (Int64.ofNat (i : Nat)) :: st) (f)) := propext ⟨fun h => h.2, fun h => ⟨rfl, h⟩⟩
theorem ev_4 : mz_S X cn ini nL ret (.aconst_null) 1 pc l st f K P = (K (pc + 1) (l) (.null :: st) (f)) := propext ⟨fun h => h.2, fun h => ⟨rfl, h⟩⟩
theorem ev_5 : mz_S X cn ini nL ret (.iadd) 1 pc l st f K P = ((match st with
      | .int y :: .int x :: r => K (pc + 1) (l) (.int (x + y) :: r) (f)
      | _ => False)) := propext ⟨fun h => h.2, fun h => ⟨rfl, h⟩⟩
theorem ev_6 : mz_S X cn ini nL ret (.isub) 1 pc l st f K P = ((match st with
      | .int y :: .int x :: r => K (pc + 1) (l) (.int (x - y) :: r) (f)
      | _ => False)) := propext ⟨fun h => h.2, fun h => ⟨rfl, h⟩⟩
theorem ev_7 : mz_S X cn ini nL ret (.imul) 1 pc l st f K P = ((match st with
      | .int y :: .int x :: r => K (pc + 1) (l) (.int (x * y) :: r) (f)
      | _ => False)) := propext ⟨fun h => h.2, fun h => ⟨rfl, h⟩⟩
theorem ev_8 : mz_S X cn ini nL ret (.iand) 1 pc l st f K P = ((match st with
      | .int y :: .int x :: r => K (pc + 1) (l) (.int (x &&& y) :: r) (f)
      | _ => False)) := propext ⟨fun h => h.2, fun h => ⟨rfl, h⟩⟩
theorem ev_9 : mz_S X cn ini nL ret (.ior) 1 pc l st f K P = ((match st with
      | .int y :: .int x :: r => K (pc + 1) (l) (.int (x ||| y) :: r) (f)
      | _ => False)) := propext ⟨fun h => h.2, fun h => ⟨rfl, h⟩⟩
theorem ev_10 : mz_S X cn ini nL ret (.ixor) 1 pc l st f K P = ((match st with
      | .int y :: .int x :: r => K (pc + 1) (l) (.int (x ^^^ y) :: r) (f)
      | _ => False)) := propext ⟨fun h => h.2, fun h => ⟨rfl, h⟩⟩
theorem ev_11 : mz_S X cn ini nL ret (.ishl) 1 pc l st f K P = ((match st with
      | .int y :: .int x :: r => K (pc + 1) (l) (.int (x <<< (y &&& 31)) :: r) (f)
      | _ => False)) := propext ⟨fun h => h.2, fun h => ⟨rfl, h⟩⟩
theorem ev_12 : mz_S X cn ini nL ret (.ishr) 1 pc l st f K P = ((match st with
      | .int y :: .int x :: r => K (pc + 1) (l) (.int (x >>> (y &&& 31)) :: r) (f)
      | _ => False)) := propext ⟨fun h => h.2, fun h => ⟨rfl, h⟩⟩
theorem ev_13 : mz_S X cn ini nL ret (.idiv) 1 pc l st f K P = ((match st with
      | .int y :: .int x :: r => (¬ y = 0) ∧ K (pc + 1) (l) (.int (x / y) :: r) (f)
      | _ => False)) := propext ⟨fun h => h.2, fun h => ⟨rfl, h⟩⟩
theorem ev_14 : mz_S X cn ini nL ret (.irem) 1 pc l st f K P = ((match st with
      | .int y :: .int x :: r => (¬ y = 0) ∧ K (pc + 1) (l) (.int (x - x / y * y) :: r) (f)
      | _ => False)) := propext ⟨fun h => h.2, fun h => ⟨rfl, h⟩⟩
theorem ev_15 : mz_S X cn ini nL ret (.ladd) 1 pc l st f K P = ((match st with
      | .long y :: .long x :: r => K (pc + 1) (l) (.long (x + y) :: r) (f)
      | _ => False)) := propext ⟨fun h => h.2, fun h => ⟨rfl, h⟩⟩
theorem ev_16 : mz_S X cn ini nL ret (.lsub) 1 pc l st f K P = ((match st with
      | .long y :: .long x :: r => K (pc + 1) (l) (.long (x - y) :: r) (f)
      | _ => False)) := propext ⟨fun h => h.2, fun h => ⟨rfl, h⟩⟩
theorem ev_17 : mz_S X cn ini nL ret (.lmul) 1 pc l st f K P = ((match st with
      | .long y :: .long x :: r => K (pc + 1) (l) (.long (x * y) :: r) (f)
      | _ => False)) := propext ⟨fun h => h.2, fun h => ⟨rfl, h⟩⟩
theorem ev_18 : mz_S X cn ini nL ret (.land) 1 pc l st f K P = ((match st with
      | .long y :: .long x :: r => K (pc + 1) (l) (.long (x &&& y) :: r) (f)
      | _ => False)) := propext ⟨fun h => h.2, fun h => ⟨rfl, h⟩⟩
theorem ev_19 : mz_S X cn ini nL ret (.lor) 1 pc l st f K P = ((match st with
      | .long y :: .long x :: r => K (pc + 1) (l) (.long (x ||| y) :: r) (f)
      | _ => False)) := propext ⟨fun h => h.2, fun h => ⟨rfl, h⟩⟩
theorem ev_20 : mz_S X cn ini nL ret (.lxor) 1 pc l st f K P = ((match st with
      | .long y :: .long x :: r => K (pc + 1) (l) (.long (x ^^^ y) :: r) (f)
      | _ => False)) := propext ⟨fun h => h.2, fun h => ⟨rfl, h⟩⟩
theorem ev_21 : mz_S X cn ini nL ret (.ldiv) 1 pc l st f K P = ((match st with
      | .long y :: .long x :: r => (¬ y = 0) ∧ K (pc + 1) (l) (.long (x / y) :: r) (f)
      | _ => False)) := propext ⟨fun h => h.2, fun h => ⟨rfl, h⟩⟩
theorem ev_22 : mz_S X cn ini nL ret (.lrem) 1 pc l st f K P = ((match st with
      | .long y :: .long x :: r => (¬ y = 0) ∧ K (pc + 1) (l) (.long (x - x / y * y) :: r) (f)
      | _ => False)) := propext ⟨fun h => h.2, fun h => ⟨rfl, h⟩⟩
theorem ev_23 : mz_S X cn ini nL ret (.lcmp) 1 pc l st f K P = ((match st with
      | .long y :: .long x :: r => K (pc + 1) (l) (.int (lg_cmp x y) :: r) (f)
      | _ => False)) := propext ⟨fun h => h.2, fun h => ⟨rfl, h⟩⟩
theorem ev_24 : mz_S X cn ini nL ret (.lshl) 1 pc l st f K P = ((match st with
      | .int y :: .long x :: r => K (pc + 1) (l) (.long (x <<< (y.toInt64 &&& 63)) :: r) (f)
      | _ => False)) := propext ⟨fun h => h.2, fun h => ⟨rfl, h⟩⟩
theorem ev_25 : mz_S X cn ini nL ret (.lshr) 1 pc l st f K P = ((match st with
      | .int y :: .long x :: r => K (pc + 1) (l) (.long (x >>> (y.toInt64 &&& 63)) :: r) (f)
      | _ => False)) := propext ⟨fun h => h.2, fun h => ⟨rfl, h⟩⟩
theorem ev_26 : mz_S X cn ini nL ret (.lushr) 1 pc l st f K P = ((match st with
      | .int y :: .long x :: r => K (pc + 1) (l) (.long (x.toUInt64 >>> (y.toInt64.toUInt64 &&& Int64.toUInt64 63)).toInt64 :: r) (f)
      | _ => False)) := propext ⟨fun h => h.2, fun h => ⟨rfl, h⟩⟩
theorem ev_27 : mz_S X cn ini nL ret (.ineg) 1 pc l st f K P = ((match st with
      | .int x :: r => K (pc + 1) (l) (.int (-x) :: r) (f)
      | _ => False)) := propext ⟨fun h => h.2, fun h => ⟨rfl, h⟩⟩
theorem ev_28 : mz_S X cn ini nL ret (.i2l) 1 pc l st f K P = ((match st with
      | .int x :: r => K (pc + 1) (l) (.long x.toInt64 :: r) (f)
      | _ => False)) := propext ⟨fun h => h.2, fun h => ⟨rfl, h⟩⟩
theorem ev_29 : mz_S X cn ini nL ret (.l2i) 1 pc l st f K P = ((match st with
      | .long x :: r => K (pc + 1) (l) (.int x.toInt32 :: r) (f)
      | _ => False)) := propext ⟨fun h => h.2, fun h => ⟨rfl, h⟩⟩
theorem ev_30 : mz_S X cn ini nL ret (.i2b) 1 pc l st f K P = ((match st with
      | .int x :: r => K (pc + 1) (l) (.int x.toInt8.toInt32 :: r) (f)
      | _ => False)) := propext ⟨fun h => h.2, fun h => ⟨rfl, h⟩⟩
theorem ev_31 : mz_S X cn ini nL ret (.i2s) 1 pc l st f K P = ((match st with
      | .int x :: r => K (pc + 1) (l) (.int x.toInt16.toInt32 :: r) (f)
      | _ => False)) := propext ⟨fun h => h.2, fun h => ⟨rfl, h⟩⟩
theorem ev_32 : mz_S X cn ini nL ret (.dup) 1 pc l st f K P = ((match st with
      | v :: r => v.category = 1 ∧ K (pc + 1) (l) (v :: v :: r) (f)
      | _ => False)) := propext ⟨fun h => h.2, fun h => ⟨rfl, h⟩⟩
theorem ev_33 : mz_S X cn ini nL ret (.pop) 1 pc l st f K P = ((match st with
      | v :: r => v.category = 1 ∧ K (pc + 1) (l) (r) (f)
      | _ => False)) := propext ⟨fun h => h.2, fun h => ⟨rfl, h⟩⟩
theorem ev_34 : mz_S X cn ini nL ret (.dup_x1) 1 pc l st f K P = ((match st with
      | v :: w :: r => v.category = 1 ∧ w.category = 1 ∧ K (pc + 1) (l) (v :: w :: v :: r) (f)
      | _ => False)) := propext ⟨fun h => h.2, fun h => ⟨rfl, h⟩⟩
theorem ev_35 : mz_S X cn ini nL ret (.dup2) 1 pc l st f K P = ((match st with
      | v :: w :: r => v.category = 1 ∧ w.category = 1 ∧ K (pc + 1) (l) (v :: w :: v :: w :: r) (f)
      | _ => False)) := propext ⟨fun h => h.2, fun h => ⟨rfl, h⟩⟩
theorem ev_36 {i : Nat} : mz_S X cn ini nL ret (.iload i) 2 pc l st f K P = ((match l[i]? with
      | some (some (.int x)) => K (pc + 2) (l) (.int x :: st) (f)
      | _ => False)) := propext ⟨fun h => h.2, fun h => ⟨rfl, h⟩⟩
theorem ev_37 {i : Fin 4} : mz_S X cn ini nL ret (.iload_n i) 1 pc l st f K P = ((match l[i.val]? with
      | some (some (.int x)) => K (pc + 1) (l) (.int x :: st) (f)
      | _ => False)) := propext ⟨fun h => h.2, fun h => ⟨rfl, h⟩⟩
theorem ev_38 {i : Nat} : mz_S X cn ini nL ret (.lload i) 2 pc l st f K P = ((match l[i]? with
      | some (some (.long x)) => K (pc + 2) (l) (.long x :: st) (f)
      | _ => False)) := propext ⟨fun h => h.2, fun h => ⟨rfl, h⟩⟩
theorem ev_39 {i : Fin 4} : mz_S X cn ini nL ret (.lload_n i) 1 pc l st f K P = ((match l[i.val]? with
      | some (some (.long x)) => K (pc + 1) (l) (.long x :: st) (f)
      | _ => False)) := propext ⟨fun h => h.2, fun h => ⟨rfl, h⟩⟩
theorem ev_40 {i : Nat} : mz_S X cn ini nL ret (.aload i) 2 pc l st f K P = ((match l[i]? with
      | some (some (.ref x)) => K (pc + 2) (l) (.ref x :: st) (f)
      | some (some .null) => K (pc + 2) (l) (.null :: st) (f)
      | _ => False)) := propext ⟨fun h => h.2, fun h => ⟨rfl, h⟩⟩
theorem ev_41 {i : Fin 4} : mz_S X cn ini nL ret (.aload_n i) 1 pc l st f K P = ((match l[i.val]? with
      | some (some (.ref x)) => K (pc + 1) (l) (.ref x :: st) (f)
      | some (some .null) => K (pc + 1) (l) (.null :: st) (f)
      | _ => False)) := propext ⟨fun h => h.2, fun h => ⟨rfl, h⟩⟩
theorem ev_42 {i : Nat} : mz_S X cn ini nL ret (.istore i) 2 pc l st f K P = (i < nL ∧ (match st with
      | .int x :: r => K (pc + 2) (mz_s1 l i (.int x)) (r) (f)
      | _ => False)) := propext ⟨fun h => h.2, fun h => ⟨rfl, h⟩⟩
theorem ev_43 {i : Fin 4} : mz_S X cn ini nL ret (.istore_n i) 1 pc l st f K P = (i.val < nL ∧ (match st with
      | .int x :: r => K (pc + 1) (mz_s1 l i.val (.int x)) (r) (f)
      | _ => False)) := propext ⟨fun h => h.2, fun h => ⟨rfl, h⟩⟩
theorem ev_44 {i : Nat} : mz_S X cn ini nL ret (.lstore i) 2 pc l st f K P = (i + 1 < nL ∧ (match st with
      | .long x :: r => K (pc + 2) (mz_s2 l i (.long x)) (r) (f)
      | _ => False)) := propext ⟨fun h => h.2, fun h => ⟨rfl, h⟩⟩
theorem ev_45 {i : Fin 4} : mz_S X cn ini nL ret (.lstore_n i) 1 pc l st f K P = (i.val + 1 < nL ∧ (match st with
      | .long x :: r => K (pc + 1) (mz_s2 l i.val (.long x)) (r) (f)
      | _ => False)) := propext ⟨fun h => h.2, fun h => ⟨rfl, h⟩⟩
theorem ev_46 {i : Nat} : mz_S X cn ini nL ret (.astore i) 2 pc l st f K P = (i < nL ∧ (match st with
      | .ref x :: r => K (pc + 2) (mz_s1 l i (.ref x)) (r) (f)
      | .null :: r => K (pc + 2) (mz_s1 l i .null) (r) (f)
      | _ => False)) := propext ⟨fun h => h.2, fun h => ⟨rfl, h⟩⟩
theorem ev_47 {i : Fin 4} : mz_S X cn ini nL ret (.astore_n i) 1 pc l st f K P = (i.val < nL ∧ (match st with
      | .ref x :: r => K (pc + 1) (mz_s1 l i.val (.ref x)) (r) (f)
      | .null :: r => K (pc + 1) (mz_s1 l i.val .null) (r) (f)
      | _ => False)) := propext ⟨fun h => h.2, fun h => ⟨rfl, h⟩⟩
theorem ev_48 {i : Nat} {d : Int} : mz_S X cn ini nL ret (.iinc i d) 3 pc l st f K P = (i < nL ∧ (match l[i]? with
      | some (some (.int x)) => K (pc + 3) (mz_s1 l i (.int (x + Int32.ofInt d))) (st) (f)
      | _ => False)) := propext ⟨fun h => h.2, fun h => ⟨rfl, h⟩⟩
theorem ev_49 {off : Int} : mz_S X cn ini nL ret (.ifCond .eq off) 3 pc l st f K P = (0 ≤ (pc : Int) + off ∧ (match st with
      | .int x :: r => (x = 0 → K (mz_t pc off) (l) (r) (f)) ∧ (¬ x = 0 → K (pc + 3) (l) (r) (f))
      | _ => False)) := propext ⟨fun h => h.2, fun h => ⟨rfl, h⟩⟩
theorem ev_50 {off : Int} : mz_S X cn ini nL ret (.if_icmp .eq off) 3 pc l st f K P = (0 ≤ (pc : Int) + off ∧ (match st with
      | .int y :: .int x :: r => (x = y → K (mz_t pc off) (l) (r) (f)) ∧ (¬ x = y → K (pc + 3) (l) (r) (f))
      | _ => False)) := propext ⟨fun h => h.2, fun h => ⟨rfl, h⟩⟩
theorem ev_51 {off : Int} : mz_S X cn ini nL ret (.ifCond .ne off) 3 pc l st f K P = (0 ≤ (pc : Int) + off ∧ (match st with
      | .int x :: r => (¬ x = 0 → K (mz_t pc off) (l) (r) (f)) ∧ (x = 0 → K (pc + 3) (l) (r) (f))
      | _ => False)) := propext ⟨fun h => h.2, fun h => ⟨rfl, h⟩⟩
theorem ev_52 {off : Int} : mz_S X cn ini nL ret (.if_icmp .ne off) 3 pc l st f K P = (0 ≤ (pc : Int) + off ∧ (match st with
      | .int y :: .int x :: r => (¬ x = y → K (mz_t pc off) (l) (r) (f)) ∧ (x = y → K (pc + 3) (l) (r) (f))
      | _ => False)) := propext ⟨fun h => h.2, fun h => ⟨rfl, h⟩⟩
theorem ev_53 {off : Int} : mz_S X cn ini nL ret (.ifCond .lt off) 3 pc l st f K P = (0 ≤ (pc : Int) + off ∧ (match st with
      | .int x :: r => (x < 0 → K (mz_t pc off) (l) (r) (f)) ∧ (¬ x < 0 → K (pc + 3) (l) (r) (f))
      | _ => False)) := propext ⟨fun h => h.2, fun h => ⟨rfl, h⟩⟩
theorem ev_54 {off : Int} : mz_S X cn ini nL ret (.if_icmp .lt off) 3 pc l st f K P = (0 ≤ (pc : Int) + off ∧ (match st with
      | .int y :: .int x :: r => (x < y → K (mz_t pc off) (l) (r) (f)) ∧ (¬ x < y → K (pc + 3) (l) (r) (f))
      | _ => False)) := propext ⟨fun h => h.2, fun h => ⟨rfl, h⟩⟩
theorem ev_55 {off : Int} : mz_S X cn ini nL ret (.ifCond .ge off) 3 pc l st f K P = (0 ≤ (pc : Int) + off ∧ (match st with
      | .int x :: r => (0 ≤ x → K (mz_t pc off) (l) (r) (f)) ∧ (¬ 0 ≤ x → K (pc + 3) (l) (r) (f))
      | _ => False)) := propext ⟨fun h => h.2, fun h => ⟨rfl, h⟩⟩
theorem ev_56 {off : Int} : mz_S X cn ini nL ret (.if_icmp .ge off) 3 pc l st f K P = (0 ≤ (pc : Int) + off ∧ (match st with
      | .int y :: .int x :: r => (y ≤ x → K (mz_t pc off) (l) (r) (f)) ∧ (¬ y ≤ x → K (pc + 3) (l) (r) (f))
      | _ => False)) := propext ⟨fun h => h.2, fun h => ⟨rfl, h⟩⟩
theorem ev_57 {off : Int} : mz_S X cn ini nL ret (.ifCond .gt off) 3 pc l st f K P = (0 ≤ (pc : Int) + off ∧ (match st with
      | .int x :: r => (0 < x → K (mz_t pc off) (l) (r) (f)) ∧ (¬ 0 < x → K (pc + 3) (l) (r) (f))
      | _ => False)) := propext ⟨fun h => h.2, fun h => ⟨rfl, h⟩⟩
theorem ev_58 {off : Int} : mz_S X cn ini nL ret (.if_icmp .gt off) 3 pc l st f K P = (0 ≤ (pc : Int) + off ∧ (match st with
      | .int y :: .int x :: r => (y < x → K (mz_t pc off) (l) (r) (f)) ∧ (¬ y < x → K (pc + 3) (l) (r) (f))
      | _ => False)) := propext ⟨fun h => h.2, fun h => ⟨rfl, h⟩⟩
theorem ev_59 {off : Int} : mz_S X cn ini nL ret (.ifCond .le off) 3 pc l st f K P = (0 ≤ (pc : Int) + off ∧ (match st with
      | .int x :: r => (x ≤ 0 → K (mz_t pc off) (l) (r) (f)) ∧ (¬ x ≤ 0 → K (pc + 3) (l) (r) (f))
      | _ => False)) := propext ⟨fun h => h.2, fun h => ⟨rfl, h⟩⟩
theorem ev_60 {off : Int} : mz_S X cn ini nL ret (.if_icmp .le off) 3 pc l st f K P = (0 ≤ (pc : Int) + off ∧ (match st with
      | .int y :: .int x :: r => (x ≤ y → K (mz_t pc off) (l) (r) (f)) ∧ (¬ x ≤ y → K (pc + 3) (l) (r) (f))
      | _ => False)) := propext ⟨fun h => h.2, fun h => ⟨rfl, h⟩⟩
theorem ev_61 {off : Int} : mz_S X cn ini nL ret (.goto off) 3 pc l st f K P = (0 ≤ (pc : Int) + off ∧ K (mz_t pc off) (l) (st) (f)) := propext ⟨fun h => h.2, fun h => ⟨rfl, h⟩⟩
theorem ev_62 {off : Int} : mz_S X cn ini nL ret (.ifnull off) 3 pc l st f K P = ((match st with
      | .ref _ :: r => K (pc + 3) (l) (r) (f)
      | .null :: r => 0 ≤ (pc : Int) + off ∧ K (mz_t pc off) (l) (r) (f)
      | _ => False)) := propext ⟨fun h => h.2, fun h => ⟨rfl, h⟩⟩
theorem ev_63 {off : Int} : mz_S X cn ini nL ret (.ifnonnull off) 3 pc l st f K P = ((match st with
      | .ref _ :: r => 0 ≤ (pc : Int) + off ∧ K (mz_t pc off) (l) (r) (f)
      | .null :: r => K (pc + 3) (l) (r) (f)
      | _ => False)) := propext ⟨fun h => h.2, fun h => ⟨rfl, h⟩⟩
theorem ev_64 : mz_S X cn ini nL ret (.ireturn) 1 pc l st f K P = ((match st, ret with
      | [.int x], some ty => narrow ty (.int x) = .int x ∧ P (some (.int x))
      | _, _ => False)) := propext ⟨fun h => h.2, fun h => ⟨rfl, h⟩⟩
theorem ev_65 : mz_S X cn ini nL ret (.lreturn) 1 pc l st f K P = ((match st, ret with
      | [.long x], some .long => P (some (.long x))
      | _, _ => False)) := propext ⟨fun h => h.2, fun h => ⟨rfl, h⟩⟩
theorem ev_66 : mz_S X cn ini nL ret (.areturn) 1 pc l st f K P = ((match st, ret with
      | [.ref x], some (.object _) => P (some (.ref x))
      | [.null], some (.object _) => P (some .null)
      | _, _ => False)) := propext ⟨fun h => h.2, fun h => ⟨rfl, h⟩⟩
theorem ev_67 : mz_S X cn ini nL ret (.return_) 1 pc l st f K P = ((match st, ret with
      | [], none => P none
      | _, _ => False)) := propext ⟨fun h => h.2, fun h => ⟨rfl, h⟩⟩
theorem ev_68 : mz_S X cn ini nL ret (.iaload) 1 pc l st f K P = ((match st with
      | .int i :: .ref a :: r => (match f a with
        | .inl (0, N, .inl g) => vp_in i N ∧ K (pc + 1) (l) (.int (g i.toNatClampNeg) :: r) (f)
        | .inr _ => (match X a with
          | some (N, g) => vp_in i N ∧ K (pc + 1) (l) (.int (g i.toNatClampNeg) :: r) (f)
          | none => False)
        | _ => False)
      | _ => False)) := propext ⟨fun h => h.2, fun h => ⟨rfl, h⟩⟩
theorem ev_69 : mz_S X cn ini nL ret (.baload) 1 pc l st f K P = ((match st with
      | .int i :: .ref a :: r => (match f a with
        | .inl (1, N, .inl g) => vp_in i N ∧ K (pc + 1) (l) (.int (g i.toNatClampNeg) :: r) (f)
        | _ => False)
      | _ => False)) := propext ⟨fun h => h.2, fun h => ⟨rfl, h⟩⟩
theorem ev_70 : mz_S X cn ini nL ret (.saload) 1 pc l st f K P = ((match st with
      | .int i :: .ref a :: r => (match f a with
        | .inl (2, N, .inl g) => vp_in i N ∧ K (pc + 1) (l) (.int (g i.toNatClampNeg) :: r) (f)
        | _ => False)
      | _ => False)) := propext ⟨fun h => h.2, fun h => ⟨rfl, h⟩⟩
theorem ev_71 : mz_S X cn ini nL ret (.laload) 1 pc l st f K P = ((match st with
      | .int i :: .ref a :: r => (match f a with
        | .inl (3, N, .inr (.inl g)) => vp_in i N ∧ K (pc + 1) (l) (.long (g i.toNatClampNeg) :: r) (f)
        | _ => False)
      | _ => False)) := propext ⟨fun h => h.2, fun h => ⟨rfl, h⟩⟩
theorem ev_72 : mz_S X cn ini nL ret (.iastore) 1 pc l st f K P = ((match st with
      | .int x :: .int i :: .ref a :: r => (match f a with
        | .inl (0, N, .inl g) => vp_in i N ∧ K (pc + 1) (l) (r) (mz_u f a (.inl (0, N, .inl (upd g i.toNatClampNeg x))))
        | _ => False)
      | _ => False)) := propext ⟨fun h => h.2, fun h => ⟨rfl, h⟩⟩
theorem ev_73 : mz_S X cn ini nL ret (.bastore) 1 pc l st f K P = ((match st with
      | .int x :: .int i :: .ref a :: r => (match f a with
        | .inl (1, N, .inl g) => vp_in i N ∧ K (pc + 1) (l) (r) (mz_u f a (.inl (1, N, .inl (upd g i.toNatClampNeg (vp_nar .byte x)))))
        | _ => False)
      | _ => False)) := propext ⟨fun h => h.2, fun h => ⟨rfl, h⟩⟩
theorem ev_74 : mz_S X cn ini nL ret (.sastore) 1 pc l st f K P = ((match st with
      | .int x :: .int i :: .ref a :: r => (match f a with
        | .inl (2, N, .inl g) => vp_in i N ∧ K (pc + 1) (l) (r) (mz_u f a (.inl (2, N, .inl (upd g i.toNatClampNeg (vp_nar .short x)))))
        | _ => False)
      | _ => False)) := propext ⟨fun h => h.2, fun h => ⟨rfl, h⟩⟩
theorem ev_75 : mz_S X cn ini nL ret (.lastore) 1 pc l st f K P = ((match st with
      | .long x :: .int i :: .ref a :: r => (match f a with
        | .inl (3, N, .inr (.inl g)) => vp_in i N ∧ K (pc + 1) (l) (r) (mz_u f a (.inl (3, N, .inr (.inl (vp_updL g i.toNatClampNeg x)))))
        | _ => False)
      | _ => False)) := propext ⟨fun h => h.2, fun h => ⟨rfl, h⟩⟩
theorem ev_76 : mz_S X cn ini nL ret (.aaload) 1 pc l st f K P = ((match st with
      | .int i :: .ref a :: r => (match f a with
        | .inl (t, N, .inr (.inr (.inr (.inr g)))) => vp_in i N ∧ (match nm_Ty[t]? with
          | some ty => ty.isReference = true ∧ K (pc + 1) (l) (va_rf (g i.toNatClampNeg) :: r) (f)
          | none => False)
        | _ => False)
      | _ => False)) := propext ⟨fun h => h.2, fun h => ⟨rfl, h⟩⟩
theorem ev_77 : mz_S X cn ini nL ret (.aastore) 1 pc l st f K P = ((match st with
      | .ref b :: .int i :: .ref a :: r => (match f a with
        | .inl (t, N, .inr (.inr (.inr (.inr g)))) => vp_in i N ∧ (match f b with
          | .inr (ci, _) => (match nm_Cl[ci]? with
            | some cl => nm_Ty[t]? = some (.object cl.1) ∧ K (pc + 1) (l) (r) (mz_u f a (.inl (t, N, .inr (.inr (.inr (.inr (va_up g i.toNatClampNeg (some b))))))))
            | none => False)
          | _ => False)
        | _ => False)
      | _ => False)) := propext ⟨fun h => h.2, fun h => ⟨rfl, h⟩⟩
theorem ev_78 : mz_S X cn ini nL ret (.arraylength) 1 pc l st f K P = ((match st with
      | .ref a :: r => (match f a with
        | .inl q => (match nm_Ty[q.1]? with
          | some _ => K (pc + 1) (l) (.int (Int32.ofNat q.2.1) :: r) (f)
          | none => False)
        | .inr _ => (match X a with
          | some (N, _) => K (pc + 1) (l) (.int (Int32.ofNat N) :: r) (f)
          | none => False))
      | _ => False)) := propext ⟨fun h => h.2, fun h => ⟨rfl, h⟩⟩
theorem ev_79 {idx : Nat} : mz_S X cn ini nL ret (.getfield idx) 3 pc l st f K P = ((match st with
      | .ref a :: r => (match nm_Fld cn idx with
        | some (ci, k) => (match f a with
          | .inr (ci', fs) => ci' = ci ∧ (match fs[k]? with
            | some v => K (pc + 3) (l) (v :: r) (f)
            | none => False)
          | _ => False)
        | none => False)
      | _ => False)) := propext ⟨fun h => h.2, fun h => ⟨rfl, h⟩⟩
theorem ev_80 {idx : Nat} : mz_S X cn ini nL ret (.putfield idx) 3 pc l st f K P = ((match st with
      | v :: .ref a :: r => (match nm_Fld cn idx with
        | some (ci, k) => (match f a with
          | .inr (ci', fs) => ci' = ci ∧ k < fs.length ∧ mz_fit (nm_FTy ci k) v ∧ (nm_Fin ci k = false ∨ nm_Fin ci k = true ∧ ini = true ∧ ci = cn ∧ nm_FldF cn idx = true) ∧ K (pc + 3) (l) (r) (mz_u f a (.inr (ci, fs.set k v)))
          | _ => False)
        | none => False)
      | _ => False)) := propext ⟨fun h => h.2, fun h => ⟨rfl, h⟩⟩
theorem ev_81 {idx : Nat} : mz_S X cn ini nL ret (.getstatic idx) 3 pc l st f K P = ((match nm_Sta cn idx with
      | some a => X a ≠ none ∧ K (pc + 3) (l) (.ref a :: st) (f)
      | none => False)) := propext ⟨fun h => h.2, fun h => ⟨rfl, h⟩⟩
theorem ev_82 {idx : Nat} : mz_S X cn ini nL ret (.ldc idx) 2 pc l st f K P = ((match nm_Con cn idx with
      | some v => K (pc + 2) (l) (.int v :: st) (f)
      | none => False)) := propext ⟨fun h => h.2, fun h => ⟨rfl, h⟩⟩
theorem ev_83 {idx : Nat} : mz_S X cn ini nL ret (.ldc2_w idx) 3 pc l st f K P = ((match nm_ConL cn idx with
      | some v => K (pc + 3) (l) (.long v :: st) (f)
      | none => False)) := propext ⟨fun h => h.2, fun h => ⟨rfl, h⟩⟩
end MZEV
end
section
/-! contracts over the machine, and calls -/
def mz_ws (y : MethodName) (cc : ByteArray) (nL : Nat) (ret : Option FieldType) : List Cond := .code y cc nL ret :: nm_Ts
def mz_la (vs : List Value) : mz_L := vs.flatMap (fun v => if v.category = 2 then [some v, none] else [some v])
def mz_l0 (nL : Nat) (vs : List Value) : mz_L := mz_la vs ++ List.replicate (nL - (mz_la vs).length) none
def mz_sl (ad : Nat → Nat) (o : Option Value) : Slot := match o with
  | some v => .val (mz_v ad v)
  | none => .second
theorem mz_sl_eq (ad : Nat → Nat) (vs : List Value) : lg_sl (vs.map (mz_v ad)) = (mz_la vs).map (mz_sl ad) := by
  induction vs with
  | nil => rfl
  | cons v vs ih =>
    show (if (mz_v ad v).category = 2 then [Slot.val (mz_v ad v), Slot.second] else [Slot.val (mz_v ad v)]) ++ lg_sl (vs.map (mz_v ad)) = ((if v.category = 2 then [some v, none] else [some v]) ++ mz_la vs).map (mz_sl ad)
    rw [ih, mz_v_cat, List.map_append]
    split <;> rfl
theorem mz_lv0 {ad : Nat → Nat} {nL : Nat} {vs : List Value} (h : (mz_la vs).length ≤ nL) : mz_lv ad (lg_sl (vs.map (mz_v ad)) ++ List.replicate (nL - (lg_sl (vs.map (mz_v ad))).length) Slot.unset).toArray nL (mz_l0 nL vs) := by
  have h0 := lv_entry (vs.map (mz_v ad)) (n := nL) (by rw [mz_sl_eq, List.length_map]; exact h)
  refine ⟨h0.1, h0.2.1, fun q hq => ?_⟩
  obtain ⟨j, w⟩ := q
  obtain ⟨x, h1, rfl⟩ := mz_pr_mem.mp hq
  unfold mz_l0 at h1
  by_cases hj : j < (mz_la vs).length
  · rw [List.getElem?_append_left hj] at h1
    show (lg_sl (vs.map (mz_v ad)) ++ List.replicate (nL - (lg_sl (vs.map (mz_v ad))).length) Slot.unset).toArray[j]? = some (.val (mz_v ad x))
    rw [List.getElem?_toArray, mz_sl_eq, List.getElem?_append_left (by rw [List.length_map]; exact hj), List.getElem?_map, h1]
    rfl
  · rw [List.getElem?_append_right (by omega)] at h1
    have := List.eq_of_mem_replicate (List.mem_of_getElem? h1)
    cases this
theorem mz_la_mem {v : Value} {vs : List Value} (h : some v ∈ mz_la vs) : v ∈ vs := by
  obtain ⟨w, hw, h2⟩ := List.mem_flatMap.mp h
  split at h2
  · rcases List.mem_cons.mp h2 with q | q
    · cases q; exact hw
    · rcases List.mem_cons.mp q with q | q
      · cases q
      · cases q
  · rcases List.mem_cons.mp h2 with q | q
    · cases q; exact hw
    · cases q
theorem mz_okL0 {n nL : Nat} {vs : List Value} (h : mz_okS n vs) : mz_okL n (mz_l0 nL vs) := by
  intro v hv
  rcases List.mem_append.mp hv with q | q
  · exact h v (mz_la_mem q)
  · have := List.eq_of_mem_replicate q
    cases this
def mz_pc (G : mz_G) (X : mz_E) (ad : Nat → Nat) (sz : Nat) (vs : List Value) (n : Nat) (f : mz_H) : Array Value → State → Prop :=
  va_Pc (vs.map (mz_v ad)) (fun U => U.heap.size = sz ∧ va_P G.2.1 nm_Cl (mz_w G.2.2 ad n f) U.heap ∧ va_K G.2.1 nm_Cl (mz_ty G.2.2) U ∧ va_D (fun _ => True) (mz_w G.2.2 ad n f) ∧ (∀ w ∈ nm_Ns, va_Nw w U) ∧ mz_xt ad (va_A (mz_w G.2.2 ad n f) sz) X U U.heap)
/-- the method y, called with vs over the cells (n, f), comes back, and 'post' holds of its answer and the cells then -/
def mz_Ct (G : mz_G) (X : mz_E) (y : MethodName) (cc : ByteArray) (nL : Nat) (ret : Option FieldType) (rm : Room) (vs : List Value) (n : Nat) (f : mz_H) (post : Option Value → Nat → mz_H → Prop) : Prop :=
  ∀ (ad : Nat → Nat) (sz : Nat), mz_wf n f → mz_okS n vs → Met G.1 y (mz_ws y cc nL ret) rm (mz_pc G X ad sz vs n f) (mz_q G (va_A (mz_w G.2.2 ad n f) sz) ad n post) rm.cells rm.slots (va_A (mz_w G.2.2 ad n f) sz)
theorem mz_Ct_of {G : mz_G} {X : mz_E} {y : MethodName} {cc : ByteArray} {nL : Nat} {ret : Option FieldType} {rm : Room} {vs : List Value} {n : Nat} {f : mz_H} {post : Option Value → Nat → mz_H → Prop} (cn : Nat) (ini : Bool) (hy : plainName y.cls = true) (hcn : y.cls = nm_Own cn) (hin : ini = true → y.name = "<init>") (hlen : (mz_la vs).length ≤ nL) (hh : cn = 13 → nm_Hd cc = [])
    (h : mz_X G X cn ini cc nL ret rm post (fun _ _ _ => False) 0 (mz_l0 nL vs) [] 0 0 n f) : mz_Ct G X y cc nL ret rm vs n f post := by
  intro ad sz hwf hok
  refine Met.ofW (cc := cc) (maxL := nL) (ret := ret) hy rfl ?_
  intro p e s m args below meth c s₁ B hml hv
  obtain ⟨rfl, rfl, hP, hK, hD0, hns, hxt⟩ := hv
  rw [lg_entry_eq]
  have hts := atoms_spec (ws := mz_ws y cc nL ret) B.pre
  have hown : s.vm.findClass y.cls = some m.cls := findClass_of_methodNamed B.named
  rw [hcn] at hown
  refine mz_wor (Q := mz_Z G rm below (va_A (mz_w G.2.2 ad n f) s.heap.size) ad n post (fun _ _ _ => False) (vs.map (mz_v ad)).toArray s) (fun t q => ?_) ?_
  · rcases q with q | ⟨_, _, _, _, _, _, _, _, _, z, _⟩
    · exact q
    · exact z.elim
  exact h (Nat.zero_le _) (Nat.zero_le _) (mz_okL0 hok) (fun _ hh => by cases hh) p e s m _ below meth c (va_A (mz_w G.2.2 ad n f) s.heap.size) s.heap [] _ ad ad n
    ⟨B.exec, B.bytes, hml, B.returns, hown, fun hi => (name_of_methodNamed B.named B.method).1.trans (hin hi), ⟨B.notSynchronized, fun _ => B.noHandlers (hts _ List.mem_cons_self), fun h13 => by rw [hh h13, List.map_eq_nil_iff]; exact Array.toList_eq_nil_iff.mpr (Array.isEmpty_iff.mp (B.noHandlers (hts _ List.mem_cons_self)))⟩, fun w hw => hts w (List.mem_cons_of_mem _ hw), hns, hK, fun q hq => Or.inr hq⟩
    ⟨hP, hD0.self, va_S.rf, hwf, Nat.le_refl _, fun _ _ => rfl, hxt⟩ (mz_lv0 hlen)
theorem mz_mono {G : mz_G} {X : mz_E} {cc : ByteArray} {nL : Nat} {ret : Option FieldType} {rm : Room} {post post' : Option Value → Nat → mz_H → Prop} {thr : String → Nat → mz_H → Prop} {cn : Nat} {ini : Bool} {pc : Nat} {l : mz_L} {st : List Value} {k1 k2 n : Nat} {f : mz_H} (hp : ∀ v n' f', post v n' f' → post' v n' f') (h : mz_X G X cn ini cc nL ret rm post thr pc l st k1 k2 n f) : mz_X G X cn ini cc nL ret rm post' thr pc l st k1 k2 n f := by
  intro hk1 hk2 hol hos p e s m args below meth c A H locs ls ad ad0 n0 ok rep hl
  refine mz_wor (fun t q => ?_) (h hk1 hk2 hol hos p e s m args below meth c A H locs ls ad ad0 n0 ok rep hl)
  rcases q with q | q
  · obtain ⟨o, b1, b2, ⟨v, ad', n', f', q1, q2, q3⟩, b3⟩ := q
    exact Or.inl ⟨o, b1, b2, ⟨v, ad', n', f', q1, hp _ _ _ q2, q3⟩, b3⟩
  · exact Or.inr q
theorem mz_goodIn {ws : List Cond} (h : ∀ w ∈ ws, w ∈ nm_Ts) : GoodIn nm_Ts ws := fun w hw => ⟨h w hw, good_of_word (nm_good w (h w hw))⟩
theorem mz_ws_in {y : MethodName} {cc : ByteArray} {nL : Nat} {ret : Option FieldType} (h : Cond.code y cc nL ret ∈ nm_Ts) : ∀ w ∈ mz_ws y cc nL ret, w ∈ nm_Ts := fun w hw => by
  rcases List.mem_cons.mp hw with rfl | q
  · exact h
  · exact q
theorem mz_xt_moved {ad : Nat → Nat} {A A' : Nat → Prop} {X X' : mz_E} {s U : State} {H : Heap} {locs : List Loc} (hvm : s.vm.Alike U.vm) (hS : va_S A s.heap H locs) (hAA : ∀ q, A' q → A q) (hX : ∀ a q, X' a = some q → X a = some q) (h : mz_xt ad A X s s.heap) : mz_xt ad A' X' U H := by
  refine ⟨fun a N g hq => ⟨(h.1 a N g (hX _ _ hq)).1, va_T.moved hvm (((h.1 a N g (hX _ _ hq)).2.kept hS.2.1).narrow hAA)⟩, fun q hq hne => ?_, th_lz_moved hvm hS.2.1 hAA h.2.2.1, th_lz_moved hvm hS.2.1 hAA h.2.2.2⟩
  refine va_Z.moved hvm (((h.2.1 q hq ?_).kept hS.2.1).narrow hAA)
  cases hE : X' q.1 with
  | none => exact absurd hE hne
  | some w => rw [hX _ _ hE]; exact fun z => by cases z
theorem mz_xt_ad {ad ad' : Nat → Nat} {A : Nat → Prop} {X : mz_E} {s : State} {H : Heap} (he : ∀ k, mz_e0 ≤ k → ad' k = ad k) (h : mz_xt ad A X s H) : mz_xt ad' A X s H := by
  refine ⟨fun a N g hq => ⟨(h.1 a N g hq).1, by rw [he a (h.1 a N g hq).1]; exact (h.1 a N g hq).2⟩, fun q hq hne => ?_, h.2.2⟩
  have ha : mz_e0 ≤ q.1 := by
    cases hE : X q.1 with
    | none => exact absurd hE hne
    | some w => exact (h.1 q.1 w.1 w.2 hE).1
  rw [he _ ha]
  exact h.2.1 q hq hne
theorem mz_pc_blind {G : mz_G} {X : mz_E} {ad : Nat → Nat} {sz : Nat} {vs : List Value} {n : Nat} {f : mz_H} : FrameBlind (mz_pc G X ad sz vs n f) := by
  intro a U g mk q
  obtain ⟨q0, q1, qP, qK, qD, qN, qX⟩ := q
  have ha : U.vm.Alike (U.calling g mk a).vm := Vm.Alike.refl U.vm
  exact ⟨q0, q1, qP, va_K.moved ha qK, qD, fun w hw => nm_Ns_call w hw (qN w hw), fun a' N g' h' => ⟨(qX.1 a' N g' h').1, va_T.moved ha (qX.1 a' N g' h').2⟩, fun q hq hne => va_Z.moved ha (qX.2.1 q hq hne), th_lz_moved ha (fun _ _ _ => rfl) (fun _ h => h) qX.2.2.1, th_lz_moved ha (fun _ _ _ => rfl) (fun _ h => h) qX.2.2.2⟩
theorem mz_pc_at {G : mz_G} {X X' : mz_E} {A : Nat → Prop} {s : State} {ad ad0 : Nat → Nat} {n0 n : Nat} {f : mz_H} {H : Heap} {locs : List Loc} {vs : List Value} (hns : ∀ w ∈ nm_Ns, va_Nw w s) (hK : va_K G.2.1 nm_Cl (mz_ty G.2.2) s) (hA : ∀ q, s.heap.size ≤ q → A q) (hX : ∀ a q, X' a = some q → X a = some q) (rep : mz_rep G X A s ad ad0 n0 n f H locs) :
    ∀ U : State, U.heap = H → s.WarmedH U.vm → mz_pc G X' ad H.size vs n f (vs.map (mz_v ad)).toArray U := by
  intro U hU hW
  obtain ⟨rP, rD, rS, rW, rN, rA, rX⟩ := rep
  refine ⟨rfl, by rw [hU], by rw [hU]; exact rP, va_K.moved hW.alike hK, rD.weaken (fun _ _ _ _ => trivial), fun w hw => nm_Ns_warm w hw hW (hns w hw), ?_⟩
  rw [hU]
  refine mz_xt_moved hW.alike rS (fun q hq => ?_) hX rX
  rcases hq with ⟨k, e, hk⟩ | hq
  · exact rD.2 k _ hk
  · exact hA q (Nat.le_trans rS.1 hq)
section MZC
variable {G : mz_G} {X X' : mz_E} {cn : Nat} {ini : Bool} {cc : ByteArray} {nL : Nat} {ret : Option FieldType} {rm : Room} {post : Option Value → Nat → mz_H → Prop} {thr : String → Nat → mz_H → Prop} {pc : Nat} {l : mz_L} {k1 k2 n : Nat} {f : mz_H}
variable {y : MethodName} {cc' : ByteArray} {nL' : Nat} {ret' : Option FieldType} {rm' : Room} {post' : Option Value → Nat → mz_H → Prop} {rest As : List Value} {idx : Nat}
/-- behind a call -/
theorem mz_cont {p : Program} {e : Env} {s : State} {m : MethodId} {args : Array Value} {below : List Frame} {meth : Method} {c : Code} {A : Nat → Prop} {H : Heap} {locs : List Loc} {ls : Array Slot} {ad ad0 : Nat → Nat} {n0 : Nat} {st0 : List Value} {a : Array Value}
    (hr : va_Run p G.1 e rm s m args below meth c H locs k1 k2 rm'.cells rm'.slots (F0 m pc ls st0) (rest.map (mz_v ad)) (mz_q G (va_A (mz_w G.2.2 ad n f) H.size) ad n post' a) (va_A (mz_w G.2.2 ad n f) H.size))
    (hf : k1 + rm'.cells ≤ rm.cells ∧ k2 + rm'.slots ≤ rm.slots) (hol : mz_okL n l) (hos : mz_okS n rest) (ok : mz_ok G cn ini cc nL ret A p s m args meth c) (rep : mz_rep G X A s ad ad0 n0 n f H locs) (hl : mz_lv ad ls nL l)
    (kk : ∀ v n' f', post' v n' f' → mz_X G X cn ini cc nL ret rm post thr (pc + 3) l (v.toList ++ rest) (k1 + rm'.cells) (k2 + rm'.slots) n' f') :
    W p G.1 e rm s m args below meth c H locs k1 k2 (mz_Z G rm below A ad0 n0 post thr args s) (F0 m pc ls st0) := by
  obtain ⟨rP, rD, rS, rW, rN, rA, rX⟩ := id rep
  have hA := ok.2.2.2.2.2.2.2.2.2.2
  have hFc : ∀ q, va_A (mz_w G.2.2 ad n f) H.size q → A q := by
    intro q hq
    rcases hq with ⟨k, e, hk⟩ | hq
    · exact rD.2 k _ hk
    · exact hA q (Nat.le_trans rS.1 hq)
  intro T hT S
  obtain ⟨v', st₀, t, T', L, h0, X', hL, e1, e2, ⟨v, ad', n', f', hv, hp, hP1, hD1, ⟨hz, hk⟩, hW1, hn1, ha1, hov⟩, st⟩ := hr T hT S
  cases hv
  rw [h0] at hz hk
  have hn2 : n0 ≤ n' := Nat.le_trans rN hn1
  have ha2 : ∀ k, k < n0 ∨ mz_e0 ≤ k → ad' k = ad0 k := fun k hk' => (ha1 k (hk'.imp (fun z => Nat.lt_of_lt_of_le z rN) id)).trans (rA k hk')
  have hokL' : mz_okL n' l := fun w hw => mz_okV_mono hn1 (hol w hw)
  have hokS' : mz_okS n' (v.toList ++ rest) := by
    intro w hw
    rcases List.mem_append.mp hw with q | q
    · cases v with
      | none => cases q
      | some x =>
        rcases List.mem_cons.mp q with q | q
        · rw [q]; exact hov x rfl
        · cases q
    · exact mz_okV_mono hn1 (hos w q)
  obtain ⟨t2, a1, b1⟩ := kk v n' f' hp hf.1 hf.2 hokL' hokS' p e s m args below meth c A T'.heap (locs ++ L) ls ad' ad0 n0 ok
    ⟨by rw [e1]; exact hP1, hD1.weaken (fun _ q _ hq => hFc _ hq), ⟨Nat.le_trans rS.1 (by rw [e1]; exact hz), fun q h1 h2 => by rw [e1, hk q (Nat.lt_of_lt_of_le h1 rS.1) (fun z => h2 (hFc q z))]; exact rS.2.1 q h1 h2, fun q hq => by
      rcases List.mem_append.mp hq with h | h
      · exact rS.2.2 q h
      · exact hFc _ (hL q h)⟩, hW1, hn2, ha2, mz_xt_ad (fun k hk' => ha1 k (Or.inr hk')) rX⟩ (mz_lv_eq ha1 hol hl) T' rfl X'
  refine ⟨t2, st t2 ?_, b1⟩
  have eS : (v.toList ++ rest).map (mz_v ad') = (v.map (mz_v ad')).toList ++ rest.map (mz_v ad) := by
    rw [List.map_append, mz_s_eq ha1 hos]
    cases v <;> rfl
  rw [← eS]
  exact a1
abbrev mz_rmOk (rm rm' : Room) (nL' k1 k2 : Nat) : Prop := (rm'.frames + 1 ≤ rm.frames ∧ 8 + (nL' + 11) + rm'.locals ≤ rm.locals) ∧ k1 + rm'.cells ≤ rm.cells ∧ k2 + rm'.slots ≤ rm.slots
abbrev mz_cl1 (y : MethodName) (na : Nat) : Prop := y.cls ≠ "java/lang/invoke/MethodHandle" ∧ y.cls ≠ "java/lang/invoke/VarHandle" ∧ (parseMethodDescriptor y.desc).map (fun d => d.parameters.length) = some na
abbrev mz_cv (cn idx : Nat) (y : MethodName) (cc' : ByteArray) (nL' : Nat) (ret' : Option FieldType) (na : Nat) : Prop :=
  (Cond.methodLink (nm_Own cn) idx y ∈ nm_Ts ∨ Cond.methodLinkNest (nm_Own cn) idx y nm_host ∈ nm_Ns) ∧ Cond.instanceMethod y ∈ nm_Ts ∧ Cond.selects y.cls y y ∈ nm_Ts ∧ Cond.initialized y.cls ∈ nm_Ts ∧ Cond.code y cc' nL' ret' ∈ nm_Ts ∧ mz_cl1 y na
abbrev mz_cs (cn idx : Nat) (y : MethodName) (cc' : ByteArray) (nL' : Nat) (ret' : Option FieldType) (na : Nat) : Prop :=
  (Cond.methodLink (nm_Own cn) idx y ∈ nm_Ts ∨ Cond.methodLinkNest (nm_Own cn) idx y nm_host ∈ nm_Ns) ∧ Cond.static y ∈ nm_Ts ∧ Cond.initialized y.cls ∈ nm_Ts ∧ Cond.code y cc' nL' ret' ∈ nm_Ts ∧ mz_cl1 y na
abbrev mz_ci (cn idx : Nat) (y : MethodName) (cc' : ByteArray) (nL' : Nat) (na : Nat) : Prop :=
  (Cond.methodLink (nm_Own cn) idx y ∈ nm_Ts ∨ Cond.methodLinkNest (nm_Own cn) idx y nm_host ∈ nm_Ns) ∧ Cond.instanceMethod y ∈ nm_Ts ∧ y.name = "<init>" ∧ Cond.initialized y.cls ∈ nm_Ts ∧ Cond.code y cc' nL' none ∈ nm_Ts ∧ mz_cl1 y na
theorem mz_callV {b ci na : Nat} {fs : List Value} {q : vw_C} (hd : decode cc pc = .ok (.invokevirtual idx, 3)) (hw : mz_cv cn idx y cc' nL' ret' na) (hna : As.length = na) (hX : ∀ a q, X' a = some q → X a = some q) (hc : mz_Ct G X' y cc' nL' ret' rm' (.ref b :: As) n f post') (hb2 : f b = .inr (ci, fs)) (hq : nm_Cl[ci]? = some q) (hqy : q.1 = y.cls) (hrm : mz_rmOk rm rm' nL' k1 k2) (hW : (rest.map fun v => v.category).sum ≤ 8)
    {st : List Value} (hst : st = As.reverse ++ .ref b :: rest) (kk : ∀ v n' f', post' v n' f' → mz_X G X cn ini cc nL ret rm post thr (pc + 3) l (v.toList ++ rest) (k1 + rm'.cells) (k2 + rm'.slots) n' f') : mz_X G X cn ini cc nL ret rm post thr pc l st k1 k2 n f := by
  subst hst
  intro hk1 hk2 hol hos p e s m args below meth c A H locs ls ad ad0 n0 ok rep hl
  obtain ⟨hx, hb, hml, hr, hown, hin, hlocks, hts, hns, hK, hA⟩ := id ok
  obtain ⟨rP, rD, rS, rW, rN, rA, rX⟩ := id rep
  obtain ⟨hlk, w1, w2, w3, w4, hd1, hd2, hd3⟩ := hw
  have hosA : mz_okS n (.ref b :: As) := mz_okS_c (hos _ (List.mem_append_right _ List.mem_cons_self)) (fun v hv => hos v (List.mem_append_left _ (List.mem_reverse.mpr hv)))
  have hosR : mz_okS n rest := fun v hv => hos v (List.mem_append_right _ (List.mem_cons_of_mem _ hv))
  have hnd : b < n := by
    rcases hosA _ List.mem_cons_self with z | z
    · exact z
    · exfalso
      rw [rW.2.2 b (Nat.le_trans rW.1 z)] at hb2
      have h2 : ci = 1000 := by injection hb2 with h2; injection h2 with h2; exact h2.symm
      rw [h2] at hq
      exact absurd hq nm_Cl_1000
  have hg := mz_w_get (tA := G.2.2) (ad := ad) (f := f) hnd
  rw [hb2] at hg
  have hM := hc ad H.size rW hosA
  have hrec := va_recv hK rP hq hg
  rw [hqy] at hrec
  have hst : ((As.reverse ++ Value.ref b :: rest).map (mz_v ad)) = (As.map (mz_v ad)).reverse ++ .ref (ad b) :: rest.map (mz_v ad) := by
    rw [List.map_append, List.map_reverse]; rfl
  rw [hst]
  have hW2 : ((rest.map (mz_v ad)).map fun v => v.category).sum ≤ 8 := by
    rw [List.map_map, show ((fun v : Value => v.category) ∘ mz_v ad) = (fun v => v.category) from funext (mz_v_cat ad)]; exact hW
  have hpv : PreV s H y.cls (ad b) (mz_pc G X' ad H.size (.ref b :: As) n f) (As.map (mz_v ad)) := ⟨mz_pc_blind, hrec, mz_pc_at (vs := .ref b :: As) hns hK hA hX rep⟩
  rcases hlk with hlk | hlk
  · refine mz_cont (rm' := rm') (post' := post') (va_runV (As := As.map (mz_v ad)) (rest := rest.map (mz_v ad)) (b := ad b) (C := y.cls) ⟨hx, hb, hml, hown, hts⟩ hM (cwV na hts (mz_goodIn (fun w hw => ?_)) rfl rfl rfl ⟨rfl, hd1, hd2, hd3⟩ hrm.1) hpv rfl (by rw [List.length_map]; exact hna) hl.1 rfl (lv_room hW2) hd hrm.2) hrm.2 hol hosR ok rep hl kk
    rcases List.mem_append.mp hw with z | z
    · simp only [List.mem_cons, List.not_mem_nil, or_false] at z
      rcases z with rfl | rfl | rfl | rfl
      · exact hlk
      · exact w1
      · exact w2
      · exact w3
    · exact mz_ws_in w4 w z
  · exact mz_cont (rm' := rm') (post' := post') (va_runVN (As := As.map (mz_v ad)) (rest := rest.map (mz_v ad)) (b := ad b) (C := y.cls) ⟨hx, hb, hml, hown, hts⟩ hM ⟨va_cnB na hts (mz_goodIn (mz_ws_in w4)) rfl rfl rfl (hns _ hlk) (hts _ w3) ⟨hd1, hd2, hd3⟩ hrm.1, hts _ w1, hts _ w2⟩ hpv rfl (by rw [List.length_map]; exact hna) hl.1 rfl (lv_room hW2) hd hrm.2) hrm.2 hol hosR ok rep hl kk
theorem mz_callS {na : Nat} (hd : decode cc pc = .ok (.invokestatic idx, 3)) (hw : mz_cs cn idx y cc' nL' ret' na) (hna : As.length = na) (hX : ∀ a q, X' a = some q → X a = some q) (hc : mz_Ct G X' y cc' nL' ret' rm' As n f post') (hrm : mz_rmOk rm rm' nL' k1 k2) (hW : (rest.map fun v => v.category).sum ≤ 8)
    {st : List Value} (hst : st = As.reverse ++ rest) (kk : ∀ v n' f', post' v n' f' → mz_X G X cn ini cc nL ret rm post thr (pc + 3) l (v.toList ++ rest) (k1 + rm'.cells) (k2 + rm'.slots) n' f') : mz_X G X cn ini cc nL ret rm post thr pc l st k1 k2 n f := by
  subst hst
  intro hk1 hk2 hol hos p e s m args below meth c A H locs ls ad ad0 n0 ok rep hl
  obtain ⟨hx, hb, hml, hr, hown, hin, hlocks, hts, hns, hK, hA⟩ := id ok
  obtain ⟨rP, rD, rS, rW, rN, rA, rX⟩ := id rep
  obtain ⟨hlk, w1, w3, w4, hd1, hd2, hd3⟩ := hw
  have hosA : mz_okS n As := fun v hv => hos v (List.mem_append_left _ (List.mem_reverse.mpr hv))
  have hosR : mz_okS n rest := fun v hv => hos v (List.mem_append_right _ hv)
  have hM := hc ad H.size rW hosA
  have hst : ((As.reverse ++ rest).map (mz_v ad)) = (As.map (mz_v ad)).reverse ++ rest.map (mz_v ad) := by
    rw [List.map_append, List.map_reverse]
  rw [hst]
  have hW2 : ((rest.map (mz_v ad)).map fun v => v.category).sum ≤ 8 := by
    rw [List.map_map, show ((fun v : Value => v.category) ∘ mz_v ad) = (fun v => v.category) from funext (mz_v_cat ad)]; exact hW
  have hps : PreS s H (mz_pc G X' ad H.size As n f) (As.map (mz_v ad)) := ⟨mz_pc_blind, mz_pc_at (vs := As) hns hK hA hX rep⟩
  rcases hlk with hlk | hlk
  · refine mz_cont (rm' := rm') (post' := post') (va_runS (As := As.map (mz_v ad)) (rest := rest.map (mz_v ad)) ⟨hx, hb, hml, hown, hts⟩ hM (va_cwS na hts (mz_goodIn (fun w hw => ?_)) rfl rfl rfl ⟨hd1, hd2, hd3⟩ hrm.1) hps rfl (by rw [List.length_map]; exact hna) hl.1 rfl (lv_room hW2) hd hrm.2) hrm.2 hol hosR ok rep hl kk
    rcases List.mem_append.mp hw with z | z
    · simp only [List.mem_cons, List.not_mem_nil, or_false] at z
      rcases z with rfl | rfl | rfl
      · exact hlk
      · exact w1
      · exact w3
    · exact mz_ws_in w4 w z
  · exact mz_cont (rm' := rm') (post' := post') (va_runSN (As := As.map (mz_v ad)) (rest := rest.map (mz_v ad)) ⟨hx, hb, hml, hown, hts⟩ hM ⟨va_cnB na hts (mz_goodIn (mz_ws_in w4)) rfl rfl rfl (hns _ hlk) (hts _ w3) ⟨hd1, hd2, hd3⟩ hrm.1, hts _ w1, trivial⟩ hps rfl (by rw [List.length_map]; exact hna) hl.1 rfl (lv_room hW2) hd hrm.2) hrm.2 hol hosR ok rep hl kk
theorem mz_callI {b na : Nat} (hd : decode cc pc = .ok (.invokespecial idx, 3)) (hw : mz_ci cn idx y cc' nL' na) (hna : As.length = na) (hX : ∀ a q, X' a = some q → X a = some q) (hc : mz_Ct G X' y cc' nL' none rm' (.ref b :: As) n f post') (hrm : mz_rmOk rm rm' nL' k1 k2) (hW : (rest.map fun v => v.category).sum ≤ 8)
    {st : List Value} (hst : st = As.reverse ++ .ref b :: rest) (kk : ∀ v n' f', post' v n' f' → mz_X G X cn ini cc nL ret rm post thr (pc + 3) l (v.toList ++ rest) (k1 + rm'.cells) (k2 + rm'.slots) n' f') : mz_X G X cn ini cc nL ret rm post thr pc l st k1 k2 n f := by
  subst hst
  intro hk1 hk2 hol hos p e s m args below meth c A H locs ls ad ad0 n0 ok rep hl
  obtain ⟨hx, hb, hml, hr, hown, hin, hlocks, hts, hns, hK, hA⟩ := id ok
  obtain ⟨rP, rD, rS, rW, rN, rA, rX⟩ := id rep
  obtain ⟨hlk, w1, w2, w3, w4, hd1, hd2, hd3⟩ := hw
  have hosA : mz_okS n (.ref b :: As) := mz_okS_c (hos _ (List.mem_append_right _ List.mem_cons_self)) (fun v hv => hos v (List.mem_append_left _ (List.mem_reverse.mpr hv)))
  have hosR : mz_okS n rest := fun v hv => hos v (List.mem_append_right _ (List.mem_cons_of_mem _ hv))
  have hM := hc ad H.size rW hosA
  have hst : ((As.reverse ++ Value.ref b :: rest).map (mz_v ad)) = (As.map (mz_v ad)).reverse ++ .ref (ad b) :: rest.map (mz_v ad) := by
    rw [List.map_append, List.map_reverse]; rfl
  rw [hst]
  have hW2 : ((rest.map (mz_v ad)).map fun v => v.category).sum ≤ 8 := by
    rw [List.map_map, show ((fun v : Value => v.category) ∘ mz_v ad) = (fun v => v.category) from funext (mz_v_cat ad)]; exact hW
  have hps : PreS s H (mz_pc G X' ad H.size (.ref b :: As) n f) (.ref (ad b) :: As.map (mz_v ad)) := ⟨mz_pc_blind, mz_pc_at (vs := .ref b :: As) hns hK hA hX rep⟩
  rcases hlk with hlk | hlk
  · exact mz_cont (rm' := rm') (post' := post') (va_runI (As := As.map (mz_v ad)) (rest := rest.map (mz_v ad)) (b := ad b) ⟨hx, hb, hml, hown, hts⟩ hM (cwI na hts (mz_goodIn (mz_ws_in w4)) rfl rfl rfl (hts _ w3) (hts _ hlk) (hts _ w1) w2 ⟨hd1, hd2, hd3⟩ hrm.1) hps rfl (by rw [List.length_map]; exact hna) hl.1 rfl (lv_room hW2) hd hrm.2) hrm.2 hol hosR ok rep hl kk
  · exact mz_cont (rm' := rm') (post' := post') (va_runIN (As := As.map (mz_v ad)) (rest := rest.map (mz_v ad)) (b := ad b) ⟨hx, hb, hml, hown, hts⟩ hM ⟨va_cnB na hts (mz_goodIn (mz_ws_in w4)) rfl rfl rfl (hns _ hlk) (hts _ w3) ⟨hd1, hd2, hd3⟩ hrm.1, w2, hts _ w1⟩ hps rfl (by rw [List.length_map]; exact hna) hl.1 rfl (lv_room hW2) hd hrm.2) hrm.2 hol hosR ok rep hl kk
end MZC
end
section
/-! new cells; Object.<init>; Math.max -/
theorem mz_dv (ad : Nat → Nat) (ty : FieldType) : mz_v ad (defaultValue ty) = defaultValue ty := by cases ty <;> rfl
theorem mz_dok (n : Nat) (ty : FieldType) : mz_okV n (defaultValue ty) := by cases ty <;> trivial
theorem mz_okC_mono {n m : Nat} (h : n ≤ m) {c : mz_C} (hc : mz_okC n c) : mz_okC m c := by
  rcases c with ⟨t, N, g | g | g | g | g⟩ | ⟨ci, fs⟩
  · trivial
  · trivial
  · trivial
  · trivial
  · exact fun j a hj => Nat.lt_of_lt_of_le (hc j a hj) h
  · exact fun v hv => mz_okV_mono h (hc v hv)
theorem mz_up_eq {ad : Nat → Nat} {n q : Nat} (hn : n < mz_e0) : ∀ k, k < n ∨ mz_e0 ≤ k → va_up ad n q k = ad k := fun k hk => by
  have : k ≠ n := by omega
  simp [va_up, this]
theorem mz_w_push {tA : Nat → ClassId} {ad : Nat → Nat} {n : Nat} {f : mz_H} (hwf : mz_wf n f) (hn : n < mz_e0) (q : Nat) {c : mz_C} : mz_w tA (va_up ad n q) (n + 1) (mz_u f n c) = mz_w tA ad n f ++ [(q, mz_e tA (va_up ad n q) c)] := by
  unfold mz_w
  rw [List.range_succ, List.map_append]
  congr 1
  · apply List.map_congr_left
    intro k hk
    have hk := List.mem_range.mp hk
    rw [mz_u_n (by omega), mz_up_eq hn k (Or.inl hk), mz_e_eq (mz_up_eq hn) (hwf.2.1 k)]
  · simp [mz_u_s, va_up]
theorem mz_wf_push {n : Nat} {f : mz_H} (h : mz_wf n f) (hn : n < mz_e0) {c : mz_C} (hc : mz_okC (n + 1) c) : mz_wf (n + 1) (mz_u f n c) := by
  refine ⟨hn, fun k => ?_, fun k hk => ?_⟩
  · by_cases e : k = n
    · rw [e, mz_u_s]; exact hc
    · rw [mz_u_n e]; exact mz_okC_mono (Nat.le_succ n) (h.2.1 k)
  · rw [mz_u_n (by omega)]; exact h.2.2 k (by omega)
section MZN
variable {G : mz_G} {X : mz_E} {cn : Nat} {ini : Bool} {cc : ByteArray} {nL : Nat} {ret : Option FieldType} {rm : Room} {post : Option Value → Nat → mz_H → Prop} {thr : String → Nat → mz_H → Prop} {pc : Nat} {l : mz_L} {r : List Value} {k1 k2 n : Nat} {f : mz_H} {idx : Nat}
/-- behind the making of a cell -/
theorem mz_made {p : Program} {e : Env} {s : State} {m : MethodId} {args : Array Value} {below : List Frame} {meth : Method} {c : Code} {A : Nat → Prop} {H H1 : Heap} {locs : List Loc} {ls : Array Slot} {ad ad0 : Nat → Nat} {n0 q N ln : Nat} {nc : mz_C}
    (hn : n < mz_e0) (hnc : mz_okC (n + 1) nc) (hol : mz_okL n l) (hos : mz_okS n r) (ok : mz_ok G cn ini cc nL ret A p s m args meth c) (rep : mz_rep G X A s ad ad0 n0 n f H locs) (hl : mz_lv ad ls nL l) (hk1 : k1 + 1 ≤ rm.cells) (hk2 : k2 + N ≤ rm.slots)
    (hP1 : va_P G.2.1 nm_Cl (mz_w G.2.2 ad n f ++ [(q, mz_e G.2.2 (va_up ad n q) nc)]) H1) (hD1 : va_D A (mz_w G.2.2 ad n f ++ [(q, mz_e G.2.2 (va_up ad n q) nc)])) (hS1 : va_S A s.heap H1 locs)
    (h : mz_X G X cn ini cc nL ret rm post thr (pc + ln) l (.ref n :: r) (k1 + 1) (k2 + N) (n + 1) (mz_u f n nc)) :
    W p G.1 e rm s m args below meth c H1 locs (k1 + 1) (k2 + N) (mz_Z G rm below A ad0 n0 post thr args s) (F0 m (pc + ln) ls (.ref q :: r.map (mz_v ad))) := by
  obtain ⟨rP, rD, rS, rW, rN, rA, rX⟩ := id rep
  have hup := mz_up_eq (ad := ad) (q := q) hn
  have eW := mz_w_push (tA := G.2.2) (ad := ad) rW hn q (c := nc)
  have hS : (Value.ref n :: r).map (mz_v (va_up ad n q)) = .ref q :: r.map (mz_v ad) := by
    rw [List.map_cons, mz_s_eq hup hos]
    show Value.ref (va_up ad n q n) :: _ = _
    simp [va_up]
  rw [← hS]
  refine h hk1 hk2 (fun v hv => mz_okV_mono (Nat.le_succ n) (hol v hv)) (mz_okS_c (Or.inl (Nat.lt_succ_self n)) (fun v hv => mz_okV_mono (Nat.le_succ n) (hos v hv))) p e s m args below meth c A H1 locs ls (va_up ad n q) ad0 n0 ok ⟨by rw [eW]; exact hP1, by rw [eW]; exact hD1, hS1, mz_wf_push rW hn hnc, by omega, fun k hk => ?_, mz_xt_ad (fun k hk => hup k (Or.inr hk)) rX⟩ (mz_lv_eq hup hol hl)
  rw [hup k (hk.imp (fun z => Nat.lt_of_lt_of_le z rN) id)]
  exact rA k hk
theorem mz_new {ci N : Nat} {C : String} {T : u_T} {fs : List Value} (hd : decode cc pc = .ok (.new idx, 3)) (hc : nm_Cl[ci]? = some (C, T, N)) (w : Cond.classLink (nm_Own cn) idx C ∈ nm_Ts ∧ Cond.instantiable C N ∈ nm_Ts ∧ Cond.initialized C ∈ nm_Ts) (hfs : (List.range N).map (fun j => defaultValue (nm_FTy ci j)) = fs) (hm1 : k1 + 1 ≤ rm.cells) (hm2 : k2 + N ≤ rm.slots) (hn : n < mz_e0)
    (h : mz_X G X cn ini cc nL ret rm post thr (pc + 3) l (.ref n :: r) (k1 + 1) (k2 + N) (n + 1) (mz_u f n (.inr (ci, fs)))) : mz_X G X cn ini cc nL ret rm post thr pc l r k1 k2 n f := by
  intro hk1 hk2 hol hos p e s m args below meth c A H locs ls ad ad0 n0 ok rep hl
  obtain ⟨hx, hb, hml, hr, hown, hin, hlocks, hts, hns, hK, hA⟩ := id ok
  obtain ⟨rP, rD, rS, rW, rN, rA, rX⟩ := id rep
  have hfs2 : ∀ ad : Nat → Nat, fs.map (mz_v ad) = fs := fun ad => by
    rw [← hfs, List.map_map]
    exact List.map_congr_left fun j _ => mz_dv ad _
  refine va_new hx hb hts (nm_Cl_ws hc) (nm_FTy ci) (nm_Cl_ty hc) hown (hts _ w.1) (hts _ w.2.1) (hts _ w.2.2) hK rP rD rS hA hc (fs := fs) (fun j hj => by
    rw [← hfs]
    simp [vp_V, List.getD_eq_getElem?_getD, List.getElem?_range hj]) hm1 hm2 hd (fun q H1 hP1 hD1 hS1 => ?_)
  have eE : mz_e G.2.2 (va_up ad n q) (.inr (ci, fs) : mz_C) = .inr (ci, fs) := by
    show Sum.inr (ci, fs.map (mz_v (va_up ad n q))) = _
    rw [hfs2]
  exact mz_made (ln := 3) (nc := .inr (ci, fs)) hn (fun v hv => by
    rw [← hfs] at hv
    obtain ⟨j, -, rfl⟩ := List.mem_map.mp hv
    exact mz_dok _ _) hol hos ok rep hl hm1 hm2 (by rw [eE]; exact hP1) (by rw [eE]; exact hD1) hS1 h
theorem mz_newa {at' : Jvm.ClassFile.ArrayType} {t N : Nat} {ty : FieldType} {a0 : vp_A} {x : Int32} (hd : decode cc pc = .ok (.newarray at', 2)) (hty : Jvm.Op.newarray.typeOf at' = ty) (ht : nm_Ty[t]? = some ty) (hprim : ∀ U cA, va_RA U cA ty = (U.vm.findClass ("[" ++ ty.toString) = some cA)) (w : Cond.arrayClass ty ∈ nm_Ts) (ha : ∀ cA : ClassId, vp_cell cA a0 = arrV cA N (fun _ => defaultValue ty)) (ha2 : ∀ ad, mz_a ad a0 = a0) (hok : mz_okC (n + 1) (.inl (t, a0))) (hx0 : ¬ x < 0) (hxN : x.toNatClampNeg = N) (hby : N * componentBytes ty ≤ 536870912) (hm1 : k1 + 1 ≤ rm.cells) (hm2 : k2 + N ≤ rm.slots) (hn : n < mz_e0)
    (h : mz_X G X cn ini cc nL ret rm post thr (pc + 2) l (.ref n :: r) (k1 + 1) (k2 + N) (n + 1) (mz_u f n (.inl (t, a0)))) : mz_X G X cn ini cc nL ret rm post thr pc l (.int x :: r) k1 k2 n f := by
  intro hk1 hk2 hol hos p e s m args below meth c A H locs ls ad ad0 n0 ok rep hl
  obtain ⟨hx, hb, hml, hr, hown, hin, hlocks, hts, hns, hK, hA⟩ := id ok
  obtain ⟨rP, rD, rS, rW, rN, rA, rX⟩ := id rep
  refine va_newa hx hb (by rw [hty]; exact hts _ w) hty hK rP rD rS hA ha hx0 hxN hby hm1 hm2 hd (fun q cA H1 hK1 hP1 hD1 hS1 => ?_)
  have e1 := (hK.2 t _ (mz_ty_get ht)).2
  have e2 := (hK1.2 (mz_ty G.2.2).length (cA, ty) (by rw [List.getElem?_append_right (Nat.le_refl _), Nat.sub_self]; rfl)).2
  rw [hprim] at e1 e2
  have e3 : G.2.2 t = cA := Option.some.inj (e1.symm.trans e2)
  have eE : mz_e G.2.2 (va_up ad n q) (.inl (t, a0) : mz_C) = .inl (cA, a0) := by
    show Sum.inl (G.2.2 t, mz_a (va_up ad n q) a0) = _
    rw [ha2, e3]
  exact mz_made (ln := 2) hn hok hol (mz_okS_tl hos) ok rep hl hm1 hm2 (by rw [eE]; exact hP1) (by rw [eE]; exact hD1) hS1 h
theorem mz_newq {C : String} {t N : Nat} {x : Int32} (hd : decode cc pc = .ok (.anewarray idx, 3)) (ht : nm_Ty[t]? = some (.object C)) (w : Cond.classLink (nm_Own cn) idx C ∈ nm_Ts ∧ Cond.arrayOver (.object C) ∈ nm_Ns) (hx0 : ¬ x < 0) (hxN : x.toNatClampNeg = N) (hby : N * 4 ≤ 536870912) (hm1 : k1 + 1 ≤ rm.cells) (hm2 : k2 + N ≤ rm.slots) (hn : n < mz_e0)
    (h : mz_X G X cn ini cc nL ret rm post thr (pc + 3) l (.ref n :: r) (k1 + 1) (k2 + N) (n + 1) (mz_u f n (.inl (t, N, .inr (.inr (.inr (.inr (fun _ => none)))))))) : mz_X G X cn ini cc nL ret rm post thr pc l (.int x :: r) k1 k2 n f := by
  intro hk1 hk2 hol hos p e s m args below meth c A H locs ls ad ad0 n0 ok rep hl
  obtain ⟨hx, hb, hml, hr, hown, hin, hlocks, hts, hns, hK, hA⟩ := id ok
  obtain ⟨rP, rD, rS, rW, rN, rA, rX⟩ := id rep
  refine va_newq hx hb hown (hts _ w.1) (hns (Cond.arrayOver (.object C)) w.2) hK rP rD rS hA hx0 hxN hby hm1 hm2 hd (fun q cA H1 hK1 hP1 hD1 hS1 => ?_)
  obtain ⟨_, _, _, _, _, e1⟩ := (hK.2 t _ (mz_ty_get ht)).2
  obtain ⟨_, _, _, _, _, e2⟩ := (hK1.2 (mz_ty G.2.2).length (cA, .object C) (by rw [List.getElem?_append_right (Nat.le_refl _), Nat.sub_self]; rfl)).2
  have e3 : G.2.2 t = cA := Option.some.inj (e1.symm.trans e2)
  have eE : mz_e G.2.2 (va_up ad n q) (.inl (t, N, .inr (.inr (.inr (.inr (fun _ => none))))) : mz_C) = .inl (cA, N, .inr (.inr (.inr (.inr (fun _ => none))))) := by
    show Sum.inl (G.2.2 t, N, _) = _
    rw [e3]; rfl
  exact mz_made (ln := 3) (nc := .inl (t, N, .inr (.inr (.inr (.inr (fun _ => none)))))) hn (fun j a hj => by cases hj) hol (mz_okS_tl hos) ok rep hl hm1 hm2 (by rw [eE]; exact hP1) (by rw [eE]; exact hD1) hS1 h
theorem mz_objInit {a : Nat} (hd : decode cc pc = .ok (.invokespecial idx, 3)) (w : Cond.methodLink (nm_Own cn) idx objectInit ∈ nm_Ts ∧ Cond.instanceMethod objectInit ∈ nm_Ts ∧ Cond.code objectInit ⟨#[0xb1]⟩ 1 none ∈ nm_Ts) (hf : 1 ≤ rm.frames) (hlo : (r.map fun v => v.category).sum + 12 ≤ rm.locals)
    (h : mz_X G X cn ini cc nL ret rm post thr (pc + 3) l r k1 k2 n f) : mz_X G X cn ini cc nL ret rm post thr pc l (.ref a :: r) k1 k2 n f := by
  intro hk1 hk2 hol hos p e s m args below meth c A H locs ls ad ad0 n0 ok rep hl
  obtain ⟨hx, hb, hml, hr, hown, hin, hlocks, hts, hns, hK, hA⟩ := id ok
  refine W.objInit (a := ad a) (rest := r.map (mz_v ad)) hx hb hown (hts _ w.1) (hts _ w.2.1) (hts _ w.2.2) rfl (by rw [hml]; exact hl.1) rfl hd hf ?_ ?_
  · show 2 * 0 + ((r.map (mz_v ad)).map fun v => v.category).sum + 12 ≤ _
    rw [List.map_map, show ((fun v : Value => v.category) ∘ mz_v ad) = (fun v => v.category) from funext (mz_v_cat ad)]; omega
  · exact h hk1 hk2 hol (mz_okS_tl hos) p e s m args below meth c A H locs ls ad ad0 n0 ok rep hl
theorem mz_mmax {x y : Int32} (hd : decode cc pc = .ok (.invokestatic idx, 3)) (w : Cond.methodLink (nm_Own cn) idx Lib.Math.max.name ∈ nm_Ts ∧ Cond.static Lib.Math.max.name ∈ nm_Ts ∧ Cond.initialized "java/lang/Math" ∈ nm_Ts ∧ Cond.code Lib.Math.max.name Lib.Math.max.code 2 (some .int) ∈ nm_Ts) (hf : 1 ≤ rm.frames) (hlo : (r.map fun v => v.category).sum + 13 ≤ rm.locals)
    (h : mz_X G X cn ini cc nL ret rm post thr (pc + 3) l (.int (if x < y then y else x) :: r) k1 k2 n f) : mz_X G X cn ini cc nL ret rm post thr pc l (.int y :: .int x :: r) k1 k2 n f := by
  intro hk1 hk2 hol hos p e s m args below meth c A H locs ls ad ad0 n0 ok rep hl
  obtain ⟨hx, hb, hml, hr, hown, hin, hlocks, hts, hns, hK, hA⟩ := id ok
  refine va_mmax hx hb (by rw [hml]; exact hl.1.symm) hown (hts _ w.1) (hts _ w.2.1) (hts _ w.2.2.1) (hts _ w.2.2.2) hf ?_ hk1 hk2 hd ?_
  · rw [List.map_map, show ((fun v : Value => v.category) ∘ mz_v ad) = (fun v => v.category) from funext (mz_v_cat ad)]; omega
  · exact h hk1 hk2 hol (mz_okS_c trivial (mz_okS_tl (mz_okS_tl hos))) p e s m args below meth c A H locs ls ad ad0 n0 ok rep hl
end MZN
end
section
/-! throw new C(text): the end of a method -/
theorem mz_throw {G : mz_G} {X : mz_E} {cn : Nat} {ini : Bool} {cc : ByteArray} {nL : Nat} {ret : Option FieldType} {rm : Room} {post : Option Value → Nat → mz_H → Prop} {thr : String → Nat → mz_H → Prop} {pc : Nat} {l : mz_L} {r : List Value} {k1 k2 n : Nat} {f : mz_H} {C text : String} {names : List String} {i1 i2 i3 : Nat}
    (hfl : G.1.flags = pinnedFlags ++ [noTraceFlag]) (hcn : cn ≠ 13) (hd0 : decode cc pc = .ok (.new i1, 3)) (hd3 : decode cc (pc + 3) = .ok (.dup, 1)) (hd4 : decode cc (pc + 4) = .ok (.ldc i2, 2)) (hd6 : decode cc (pc + 6) = .ok (.invokespecial i3, 3)) (hd9 : decode cc (pc + 9) = .ok (.athrow, 1))
    (ws : Cond.stringRef (nm_Own cn) i2 text ∈ nm_Ns) (hw : ∀ w ∈ Cond.classLink (nm_Own cn) i1 C :: Cond.initialized C :: Bundle.ownAtoms (nm_Own cn) i3 C names, ((w ∈ nm_Ts ∨ w ∈ nm_Ns) ∧ Jvm.Free.Str.ridesW w = true) ∨ w = .laysStatic Bundle.tN "UNASSIGNED_STACK" Bundle.steD ∨ w = .laysStatic Bundle.tN "SUPPRESSED_SENTINEL" Bundle.listD ∨ w = .isRef (.static Bundle.tN "UNASSIGNED_STACK" Bundle.steD) ∨ w = .isRef (.static Bundle.tN "SUPPRESSED_SENTINEL" Bundle.listD))
    (hfit : Bundle.fit C = true) (hfits : ∀ n ∈ names, Bundle.fit n = true) (hf : names.length + 3 < rm.frames) (hlo : (r.map fun v => v.category).sum + (13 * (names.length + 1) + 43) ≤ rm.locals) (hm1 : k1 + 1 ≤ rm.cells) (hm2 : k2 + 6 ≤ rm.slots) (h : thr C n f) :
    mz_X G X cn ini cc nL ret rm post thr pc l r k1 k2 n f := by
  intro hk1 hk2 hol hos p e s m args below meth c A H locs ls ad ad0 n0 ok rep hl
  obtain ⟨hx, hb, hml, hr, hown, hin, hlocks, hts, hns, hK, hA⟩ := id ok
  obtain ⟨rP, rD, rS, rW, rN, rA, rX⟩ := id rep
  intro T hT S
  have hks := Jvm.Free.Str.KeepsShape.of_stand S
  have hH : ∀ q : Nat, q < s.heap.size → ¬ A q → T.heap[q]? = s.heap[q]? := fun q h1 h2 => by rw [hT]; exact rS.2.1 q h1 h2
  have z1 := rX.2.2.1
  have z2 := rX.2.2.2
  have t1 : th_lz Bundle.tN "UNASSIGNED_STACK" Bundle.steD A T T.heap := th_lz_moved S.warmed.alike hH (fun _ h => h) z1
  have t2 : th_lz Bundle.tN "SUPPRESSED_SENTINEL" Bundle.listD A T T.heap := th_lz_moved S.warmed.alike hH (fun _ h => h) z2
  have hwT : ∀ w ∈ Cond.classLink (nm_Own cn) i1 C :: Cond.initialized C :: Bundle.ownAtoms (nm_Own cn) i3 C names, w.before args T = true := by
    intro w hq
    rcases hw w hq with ⟨q1 | q1, q2⟩ | rfl | rfl | rfl | rfl
    · exact Jvm.Free.Str.rides_of_W w q2 S.warmed hks (hts w q1)
    · exact Jvm.Free.Str.rides_of_W w q2 S.warmed hks (hns w q1)
    · exact th_lz_lays t1
    · exact th_lz_lays t2
    · exact th_lz_isRef t1
    · exact th_lz_isRef t2
  obtain ⟨U, a, ce, hst, hrun, hend, hWU, hsame, hce, hvm, hcls, hkeep⟩ := th_throw (names := names) (st := r.map (mz_v ad)) S hx (Launch.traces_off hfl S.admits) hb hown (hwT _ (by simp)) (hwT _ (by simp)) (th_sargs (hns _ ws)) (fun w q => hwT w (List.mem_cons_of_mem _ (List.mem_cons_of_mem _ q))) hfit hfits hd0 hd3 hd4 hd6 hd9 (covers_of_empty (hlocks.2.1 hcn) _) (by rw [hml]; exact hl.1) hlocks.1 hf
    (by rw [List.map_map, show ((fun v : Value => v.category) ∘ mz_v ad) = (fun v => v.category) from funext (mz_v_cat ad)]; exact hlo) hm1 hm2
  have hkH : ∀ q : Nat, q < H.size → U.heap[q]? = H[q]? := fun q hq => by
    have e1 : H[q]? = some H[q] := Array.getElem?_eq_getElem hq
    rw [e1]
    exact hkeep q _ (by rw [hT]; exact e1)
  refine ⟨U, hst, Or.inr ⟨a, C, ce, ad, n, f, locs, hrun, hend, h, hce, by rw [hvm]; rfl, (by rw [hvm]; exact (fun z => by cases z)), hcls, rP.kept (fun k x hx => hkH x.1 ((rP k x hx).lt)), rD, ?_, rW, rN, rA, hWU, hsame.mono hm1 hm2, rS.2.2⟩⟩
  refine ⟨?_, fun q h1 h2 => ?_⟩
  · exact hsame.2.1
  · rw [hkH q (Nat.lt_of_lt_of_le h1 rS.1)]; exact rS.2.1 q h1 h2
end
section
theorem nF_0 : nm_Fld 0 11 = some (0, 0) ∧ nm_Fld 0 17 = some (0, 1) ∧ nm_Fld 0 21 = some (0, 2) ∧ nm_Fld 0 28 = some (0, 3) ∧ nm_Fld 0 35 = some (0, 4) ∧ nm_Fld 0 42 = some (0, 5) ∧ nm_Fld 0 49 = some (0, 6) ∧ nm_Fld 0 56 = some (0, 7) ∧ nm_Fld 0 77 = some (2, 0) ∧ nm_Fld 0 103 = some (1, 2) ∧ nm_Fld 0 183 = some (4, 1) ∧ nm_Fld 0 200 = some (10, 1) ∧ nm_Fld 0 204 = some (7, 1) ∧ nm_Fld 0 211 = some (7, 0) ∧ nm_Fld 0 216 = some (10, 0) ∧ nm_Fld 0 219 = some (5, 0) ∧ nm_Fld 0 222 = some (5, 1) ∧ nm_Fld 0 225 = some (1, 3) ∧ nm_Fld 0 228 = some (9, 2) ∧ nm_Fld 0 231 = some (3, 2) := by decide +kernel
theorem nF_1 : nm_Fld 1 9 = some (1, 0) ∧ nm_Fld 1 15 = some (1, 1) ∧ nm_Fld 1 18 = some (1, 2) ∧ nm_Fld 1 27 = some (1, 3) ∧ nm_Fld 1 35 = some (2, 0) := by decide +kernel
theorem nF_2 : nm_Fld 2 9 = some (2, 0) := by decide +kernel
theorem nF_3 : nm_Fld 3 10 = some (3, 0) ∧ nm_Fld 3 16 = some (3, 1) ∧ nm_Fld 3 19 = some (4, 1) ∧ nm_Fld 3 23 = some (3, 2) := by decide +kernel
theorem nF_4 : nm_Fld 4 11 = some (4, 0) ∧ nm_Fld 4 17 = some (4, 1) ∧ nm_Fld 4 35 = some (2, 0) := by decide +kernel
theorem nF_5 : nm_Fld 5 9 = some (5, 0) ∧ nm_Fld 5 15 = some (5, 1) := by decide +kernel
theorem nF_6 : nm_Fld 6 9 = some (6, 0) ∧ nm_Fld 6 15 = some (6, 1) ∧ nm_Fld 6 25 = some (6, 2) := by decide +kernel
theorem nF_7 : nm_Fld 7 11 = some (7, 0) ∧ nm_Fld 7 16 = some (7, 1) := by decide +kernel
theorem nF_8 : nm_Fld 8 14 = some (8, 0) ∧ nm_Fld 8 20 = some (4, 1) ∧ nm_Fld 8 36 = some (6, 2) ∧ nm_Fld 8 58 = some (2, 0) ∧ nm_Fld 8 78 = some (6, 1) := by decide +kernel
theorem nF_9 : nm_Fld 9 9 = some (9, 0) ∧ nm_Fld 9 17 = some (9, 1) ∧ nm_Fld 9 21 = some (9, 2) ∧ nm_Fld 9 33 = some (4, 1) ∧ nm_Fld 9 46 = some (4, 0) ∧ nm_Fld 9 67 = some (2, 0) := by decide +kernel
theorem nF_10 : nm_Fld 10 9 = some (10, 0) ∧ nm_Fld 10 18 = some (10, 1) ∧ nm_Fld 10 27 = some (10, 2) ∧ nm_Fld 10 31 = some (10, 3) ∧ nm_Fld 10 34 = some (10, 4) ∧ nm_Fld 10 49 = some (4, 1) ∧ nm_Fld 10 101 = some (6, 2) ∧ nm_Fld 10 120 = some (1, 2) := by decide +kernel
theorem nF_11 : nm_Fld 11 7 = some (11, 2) ∧ nm_Fld 11 13 = some (11, 3) ∧ nm_Fld 11 17 = some (11, 4) ∧ nm_Fld 11 21 = some (11, 5) ∧ nm_Fld 11 24 = some (11, 6) ∧ nm_Fld 11 27 = some (11, 7) ∧ nm_Fld 11 30 = some (11, 8) ∧ nm_Fld 11 33 = some (11, 9) ∧ nm_Fld 11 36 = some (11, 10) ∧ nm_Fld 11 39 = some (11, 11) ∧ nm_Fld 11 42 = some (11, 12) ∧ nm_Fld 11 45 = some (11, 13) ∧ nm_Fld 11 48 = some (11, 18) ∧ nm_Fld 11 52 = some (11, 0) ∧ nm_Fld 11 62 = some (11, 1) ∧ nm_Fld 11 105 = some (11, 15) ∧ nm_Fld 11 133 = some (11, 16) ∧ nm_Fld 11 148 = some (11, 17) ∧ nm_Fld 11 188 = some (11, 14) := by decide +kernel
theorem nF_12 : nm_Fld 12 9 = some (4, 1) ∧ nm_Fld 12 66 = some (2, 0) := by decide +kernel
end
