/-! a walk begun anew at a later state of itself: what happens then is told against that state -/
theorem th_again {p : Program} {l : Launch} {e : Env} {R R' : Room} {s : State} {m : MethodId} {args : Array Value} {below : List Frame} {meth : Method} {c : Code} {T : State} {locs : List Loc} {cells slots : Nat}
    (X : Stand p l e R s m args below meth c T locs cells slots) (hf : R'.frames ≤ R.frames) (hl : R'.locals ≤ R.locals) (hc : cells + R'.cells ≤ R.cells) (hs : slots + R'.slots ≤ R.slots) :
    Stand p l e R' (T.setFrames (.invoking m args :: below)) m args below meth c T [] 0 0 := by
  obtain ⟨g₀, hg⟩ := Option.isSome_iff_exists.mp X.here.top
  obtain ⟨r, hr⟩ := State.topJava?_eq_some.mp hg
  obtain ⟨t, ht, -⟩ := State.frames_cons hr
  have hcur : T.cur < T.threads.size := State.cur_lt_of_frames hr
  have hF : (T.setFrames (.invoking m args :: below)).frames = .invoking m args :: below := State.frames_setFrames _ hcur
  have hm' : (T.setFrames (.invoking m args :: below)).vm.method? m = some meth := X.method'
  have hU : (T.setFrames (.invoking m args :: below)).localsInUse = s.localsInUse := by
    rw [State.localsInUse_invoking hF hm' X.code, State.localsInUse_invoking X.frames X.method X.code]
  have hsame := X.same
  have hroom : (T.setFrames (.invoking m args :: below)).hasRoom e.platform R' = true := by
    refine State.hasRoom_ride (s := s) (r := R) ?_ ?_ ?_ ?_ ?_ ?_ ?_ X.room
    · rw [hF, X.frames]; simp only [List.length_cons]; omega
    · rw [hU]; omega
    · rw [State.stackLimits_setFrames]; exact X.limits
    · rw [State.stackBytes_setFrames]; exact X.bytes
    · have : T.heap.size ≤ s.heap.size + cells := hsame.2.2.1
      show T.heap.size + R'.cells ≤ _
      omega
    · have h1 : T.slotsUsed = s.slotsUsed + _ := hsame.2.2.2.1
      have h2 := hsame.2.2.2.2.1
      show T.slotsUsed + R'.slots ≤ _
      rw [h1]
      have h3 : ((T.heap.toList.drop s.heap.size).map (·.slots.size)).sum ≤ slots := h2
      have h4 : (((T.setVm s.vm).heap.toList.drop s.heap.size).map (·.slots.size)).sum ≤ slots := h2
      omega
    · exact X.book
  have hhears : (T.setFrames (.invoking m args :: below)).hears m below = true := by
    have h := X.hears
    have hmeth : ∀ mm : MethodId, T.vm.method? mm = s.vm.method? mm := fun mm => X.warmed.alike.method? mm
    have hcode : ∀ mm : MethodId, (T.setFrames (.invoking m args :: below)).code? mm = s.code? mm := fun mm => by
      rw [State.code?_eq, State.code?_eq]
      show (T.vm.method? mm).bind _ = _
      rw [hmeth]
    cases hb : below with
    | nil => rw [hb] at h; simp only [State.hears] at h ⊢; show ((T.vm.method? m).any _) = true; rw [hmeth]; exact h
    | cons f r =>
      rw [hb] at h hcode
      cases f <;> simp only [State.hears] at h ⊢ <;> first | (rw [hcode]; exact h) | (show ((T.vm.method? m).any _) = true; rw [hmeth]; exact h) | exact h
  have hrefl := (State.sameButNew.refl T ht).setFrames (.invoking m args :: below) hcur
  refine ⟨X.admits, X.cas, X.clock, hF, hroom, hhears, hm', X.code, X.here, X.tail, State.WarmedH.refl _, by rw [State.stackLimits_setFrames], by rw [State.stackBytes_setFrames], ?_⟩
  have hself : T = (T.setFrames (.invoking m args :: below)).setFrames T.frames := by
    rw [State.setFrames_setFrames]; exact (State.setFrames_self ht).symm
  obtain ⟨t', ht', -⟩ := State.frames_cons hF
  have h2 := (State.sameButNew.refl (T.setFrames (.invoking m args :: below)) ht').setFrames T.frames (State.cur_lt_of_frames hF)
  rw [← hself] at h2
  exact h2
/-- 'throw new C(text)': from the new to the end, told against the state where it begins -/
theorem th_throw {p : Program} {l : Launch} {e : Env} {R : Room} {s : State} {m : MethodId} {args : Array Value} {below : List Frame} {meth : Method} {c : Code} {T : State} {locs : List Loc} {cells slots : Nat} {cc : ByteArray} {own C text : String} {names : List String} {i1 i2 i3 pc : Nat} {ls : Array Slot} {st : List Value}
    (X : Stand p l e R s m args below meth c T locs cells slots) (hexec : p.tables.exec = Jvm.exec) (htr : e.platform.stackTraces = false) (hb : c.code = cc) (hown : s.vm.findClass own = some m.cls)
    (w1 : (Cond.classLink own i1 C).before args T = true) (w2 : (Cond.initialized C).before args T = true) (w3 : (Cond.stringRef own i2 text).before args s = true) (hw : ∀ w ∈ Bundle.ownAtoms own i3 C names, w.before args T = true)
    (hfit : Bundle.fit C = true) (hfits : ∀ n ∈ names, Bundle.fit n = true)
    (hd0 : decode cc pc = .ok (.new i1, 3)) (hd3 : decode cc (pc + 3) = .ok (.dup, 1)) (hd4 : decode cc (pc + 4) = .ok (.ldc i2, 2)) (hd6 : decode cc (pc + 6) = .ok (.invokespecial i3, 3)) (hd9 : decode cc (pc + 9) = .ok (.athrow, 1))
    (hout : ∀ x ∈ c.exceptionTable.toList, covers x (pc + 9) = false) (hsize : ls.size = c.maxLocals) (hlocks : meth.locks = false)
    (hf : names.length + 3 < R.frames) (hlo : (st.map fun v => v.category).sum + (13 * (names.length + 1) + 43) ≤ R.locals) (hc : cells + 1 ≤ R.cells) (hs : slots + 6 ≤ R.slots) :
    ∃ (U : State) (a : Addr) (ce : Cell), Steps p.tables e below (T.setTop (F0 m pc ls st)) U ∧ U.status = .running ∧ Ended U below (.threw a) ∧ s.WarmedH U.vm ∧ s.sameButNew ({ U with vm := s.vm } : State) locs (cells + 1) (slots + 6) ∧ U.heap[a]? = some ce ∧ ce.vm = .none ∧ s.vm.findClass C = some ce.cls ∧ ∀ (x : Nat) (cx : Cell), T.heap[x]? = some cx → U.heap[x]? = some cx := by
  have Y := th_again (R' := { R with cells := 1, slots := 6 }) X (Nat.le_refl _) (Nat.le_refl _) hc hs
  generalize hs' : T.setFrames (.invoking m args :: below) = s' at Y
  have hwd : ∀ w : Cond, w.before args T = true → w.before args s' = true := fun w h => by rw [← hs', Cond.before_setFrames]; exact h
  have hown' : s'.vm.findClass own = some m.cls := by
    rw [← hs']; show T.vm.findClass own = _
    rw [X.warmed.alike.findClass]; exact hown
  have hheap : s'.heap = T.heap := by rw [← hs']; rfl
  obtain ⟨vm₁, cX, kX, hfX, hkX, -, -, Y₁, st1⟩ := Y.newCold hexec (own := own) (C := C) (index := i1) (n := 6) hown' (hwd _ w1) (hwd _ (hw _ (by simp [Bundle.ownAtoms]))) (hwd _ w2) (g := F0 m pc ls st) rfl (by rw [hb]; exact hd0) (by simp) (by simp)
  generalize hT : (T.setVm vm₁).pushCell { cls := cX, slots := kX.instanceTypes.map defaultValue, vm := .none } = T₁ at Y₁ st1
  have hcellA : T₁.heap[T.heap.size]? = some (freshCell cX kX) := by rw [← hT]; exact State.heap_pushCell_size _ _
  obtain ⟨-, -, -, sa, -, -, -, -, -, hev⟩ := Cond.stringRef_spec hown w3
  have hW : W p l e { R with cells := 1, slots := 6 } s' m args below meth c T₁.heap [] (0 + 1) (0 + 6) (fun U => U.status = .running ∧ Ended U below (.threw T.heap.size) ∧ s'.WarmedH U.vm ∧ s'.sameButNew ({ U with vm := s'.vm } : State) [] 1 6 ∧ ∃ ce, U.heap[T.heap.size]? = some ce ∧ ce.vm = .none ∧ s'.vm.findClass C = some ce.cls) (F0 m (pc + 3) ls (.ref T.heap.size :: st)) := by
    refine lv_dup hexec hb hd3 rfl ?_
    intro T₂ hT₂ Y₂
    obtain ⟨U, hsteps, hrun, hend, hWU, hsame, ce, hce, K⟩ := Y₂.ctorThrowS hexec htr (own := own) (cls := C) (names := names) (ic := i3) hown' hfit hfits (fun w h => hwd w (hw w h)) (fun y hy => by cases hy) hfX hkX (by rw [hT₂]; exact hcellA) (by rw [hheap]; exact Nat.le_refl _) (msg := .ref sa) rfl
      (g := F0 m (pc + 6) ls (.ref sa :: .ref T.heap.size :: .ref T.heap.size :: st)) rfl hsize rfl rfl (rest := st) rfl (by rw [hb]; exact hd6) (by rw [hb]; exact hd9) hout hf (by show 2 * 0 + (1 + (st.map fun v => v.category).sum) + _ ≤ R.locals; omega) hlocks
    have X₂ : Stand p l e R s m args below meth c T₂ (locs ++ []) (cells + (0 + 1)) (slots + (0 + 6)) := by
      have q1 := Y₂.limits
      have q2 := Y₂.bytes
      have q3 := Y₂.warmed
      have q4 := Y₂.same
      rw [← hs'] at q1 q2 q3 q4
      rw [State.stackLimits_setFrames] at q1
      rw [State.stackBytes_setFrames] at q2
      exact X.moved Y₂.here Y₂.tail q1 q2 q3 (State.sameButNew.of_setFrames q4)
    exact ⟨U, X₂.ldcString hexec (own := own) (text := text) (index := i2) (a := sa) hown w3 hev (g := F0 m (pc + 4) ls (.ref T.heap.size :: .ref T.heap.size :: st)) rfl (by rw [hb]; exact hd4) _ hsteps, hrun, hend, hWU, hsame, ce, hce, K.vm, K.cls⟩
  obtain ⟨U, hst, hrun, hend, hWU, hsame, ce, hce, hvm, hcls⟩ := hW T₁ rfl Y₁
  refine ⟨U, T.heap.size, ce, st1 _ hst, hrun, hend, ?_, ?_, hce, hvm, ?_, ?_⟩
  · rw [← hs'] at hWU
    exact State.WarmedH.trans X.warmed hWU
  · rw [← hs'] at hsame
    have h1 : T.sameButNew (U.setVm T.vm) [] 1 6 := State.sameButNew.of_setFrames hsame
    have h2 := X.same.trans (h1.setVm s.vm)
    rw [List.append_nil] at h2
    exact h2
  · rw [← hs'] at hcls
    rw [← X.warmed.alike.findClass]
    exact hcls
  · intro x cx hx
    exact hsame.old_cell (by rw [hheap]; exact hx)
