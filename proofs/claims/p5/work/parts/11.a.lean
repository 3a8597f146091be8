/-! a walk begun anew at a later state of itself: what happens then is told against that state -/
theorem th_again {p : Program} {l : Launch} {e : Env} {R R' : Room} {s : State} {m : MethodId} {args : Array Value} {below : List Frame} {meth : Method} {c : Code} {T : State} {locs : List Loc} {cells slots : Nat}
    (X : Stand p l e R s m args below meth c T locs cells slots) (hf : R'.frames ≤ R.frames) (hl : R'.locals ≤ R.locals) (hc : cells + R'.cells ≤ R.cells) (hs : slots + R'.slots ≤ R.slots) :
    Stand p l e R' (T.setFrames (.invoking m args :: below)) m args below meth c T [] 0 0 := by
  obtain ⟨g₀, hg⟩ := Option.isSome_iff_exists.mp X.here.top
  obtain ⟨r, hr⟩ := State.topJava?_eq_some.mp hg
  obtain ⟨t, ht, -⟩ := State.frames_cons hr
  have hcur : T.cur < T.threads.size := State.cur_lt_of_frames hr
  have hF : (T.setFrames (.invoking m args :: below)).frames = .invoking m args :: below := State.frames_setFrames _ hcur
  have hm' : (T.setFrames (.invoking m args :: below)).vm.method? m = some meth := X.method'
  have hU : (T.setFrames (.invoking m args :: below)).localsInUse = s.localsInUse := by
    rw [State.localsInUse_invoking hF hm' X.code, State.localsInUse_invoking X.frames X.method X.code]
  have hsame := X.same
  have hroom : (T.setFrames (.invoking m args :: below)).hasRoom e.platform R' = true := by
    refine State.hasRoom_ride (s := s) (r := R) ?_ ?_ ?_ ?_ ?_ ?_ ?_ X.room
    · rw [hF, X.frames]; simp only [List.length_cons]; omega
    · rw [hU]; omega
    · rw [State.stackLimits_setFrames]; exact X.limits
    · rw [State.stackBytes_setFrames]; exact X.bytes
    · have : T.heap.size ≤ s.heap.size + cells := hsame.2.2.1
      show T.heap.size + R'.cells ≤ _
      omega
    · have h1 : T.slotsUsed = s.slotsUsed + _ := hsame.2.2.2.1
      have h2 := hsame.2.2.2.2.1
      show T.slotsUsed + R'.slots ≤ _
      rw [h1]
      have h3 : ((T.heap.toList.drop s.heap.size).map (·.slots.size)).sum ≤ slots := h2
      have h4 : (((T.setVm s.vm).heap.toList.drop s.heap.size).map (·.slots.size)).sum ≤ slots := h2
      omega
    · exact X.book
  have hhears : (T.setFrames (.invoking m args :: below)).hears m below = true := by
    have h := X.hears
    have hmeth : ∀ mm : MethodId, T.vm.method? mm = s.vm.method? mm := fun mm => X.warmed.alike.method? mm
    have hcode : ∀ mm : MethodId, (T.setFrames (.invoking m args :: below)).code? mm = s.code? mm := fun mm => by
      rw [State.code?_eq, State.code?_eq]
      show (T.vm.method? mm).bind _ = _
      rw [hmeth]
    cases hb : below with
    | nil => rw [hb] at h; simp only [State.hears] at h ⊢; show ((T.vm.method? m).any _) = true; rw [hmeth]; exact h
    | cons f r =>
      rw [hb] at h hcode
      cases f <;> simp only [State.hears] at h ⊢ <;> first | (rw [hcode]; exact h) | (show ((T.vm.method? m).any _) = true; rw [hmeth]; exact h) | exact h
  have hrefl := (State.sameButNew.refl T ht).setFrames (.invoking m args :: below) hcur
  refine ⟨X.admits, X.cas, X.clock, hF, hroom, hhears, hm', X.code, X.here, X.tail, State.WarmedH.refl _, by rw [State.stackLimits_setFrames], by rw [State.stackBytes_setFrames], ?_⟩
  have hself : T = (T.setFrames (.invoking m args :: below)).setFrames T.frames := by
    rw [State.setFrames_setFrames]; exact (State.setFrames_self ht).symm
  obtain ⟨t', ht', -⟩ := State.frames_cons hF
  have h2 := (State.sameButNew.refl (T.setFrames (.invoking m args :: below)) ht').setFrames T.frames (State.cur_lt_of_frames hF)
  rw [← hself] at h2
  exact h2
