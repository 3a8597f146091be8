/-! the machine's context; the judgement mz_X: from this pure state the method comes to its end, and 'post' holds there -/
def mz_ty (tA : Nat → ClassId) : List (ClassId × FieldType) := (List.range nm_Ty.length).map (fun t => (tA t, nm_Ty.getD t .int))
theorem mz_ty_get {tA : Nat → ClassId} {t : Nat} {ty : FieldType} (h : nm_Ty[t]? = some ty) : (mz_ty tA)[t]? = some (tA t, ty) := by
  have hl : t < nm_Ty.length := (List.getElem?_eq_some_iff.mp h).1
  unfold mz_ty
  rw [List.getElem?_map, List.getElem?_range hl]
  simp [List.getD_eq_getElem?_getD, h]
def mz_xt (ad : Nat → Nat) (A : Nat → Prop) (X : mz_E) (s : State) (H : Heap) : Prop :=
  (∀ a N g, X a = some (N, g) → mz_e0 ≤ a ∧ va_T .int (ad a) N (fun j => .int (g j)) A s H) ∧ (∀ q ∈ nm_St, X q.1 ≠ none → va_Z q.2.1 q.2.2.1 q.2.2.2 (.ref (ad q.1)) A s H) ∧ th_lz Bundle.tN "UNASSIGNED_STACK" Bundle.steD A s H ∧ th_lz Bundle.tN "SUPPRESSED_SENTINEL" Bundle.listD A s H
def mz_ok (G : mz_G) (cn : Nat) (ini : Bool) (cc : ByteArray) (nL : Nat) (ret : Option FieldType) (A : Nat → Prop) (p : Program) (s : State) (m : MethodId) (args : Array Value) (meth : Method) (c : Code) : Prop :=
  p.tables.exec = Jvm.exec ∧ c.code = cc ∧ c.maxLocals = nL ∧ meth.sig.returnType = ret ∧ s.vm.findClass (nm_Own cn) = some m.cls ∧ (ini = true → meth.name = "<init>") ∧ (meth.locks = false ∧ (cn ≠ 13 → c.exceptionTable.isEmpty = true) ∧ (cn = 13 → c.exceptionTable.toList.map (fun h => (h.startPc, h.endPc, h.handlerPc, h.catchType)) = nm_Hd cc)) ∧ (∀ w ∈ nm_Ts, w.before args s = true) ∧ (∀ w ∈ nm_Ns, va_Nw w s) ∧ va_K G.2.1 nm_Cl (mz_ty G.2.2) s ∧ ∀ q, s.heap.size ≤ q → A q
def mz_rep (G : mz_G) (X : mz_E) (A : Nat → Prop) (s : State) (ad ad0 : Nat → Nat) (n0 n : Nat) (f : mz_H) (H : Heap) (locs : List Loc) : Prop :=
  va_P G.2.1 nm_Cl (mz_w G.2.2 ad n f) H ∧ va_D A (mz_w G.2.2 ad n f) ∧ va_S A s.heap H locs ∧ mz_wf n f ∧ n0 ≤ n ∧ (∀ k, k < n0 ∨ mz_e0 ≤ k → ad k = ad0 k) ∧ mz_xt ad A X s s.heap
def mz_q (G : mz_G) (A : Nat → Prop) (ad0 : Nat → Nat) (n0 : Nat) (post : Option Value → Nat → mz_H → Prop) : Array Value → State → Outcome → State → Prop := fun _ s oc t =>
  ∃ (v : Option Value) (ad : Nat → Nat) (n : Nat) (f : mz_H), oc = .returned (v.map (mz_v ad)) ∧ post v n f ∧ va_P G.2.1 nm_Cl (mz_w G.2.2 ad n f) t.heap ∧ va_D A (mz_w G.2.2 ad n f) ∧ va_F A s t ∧ mz_wf n f ∧ n0 ≤ n ∧ (∀ k, k < n0 ∨ mz_e0 ≤ k → ad k = ad0 k) ∧ ∀ x, v = some x → mz_okV n x
/-- the end by a throw: of an exception of the class ec, the cells as thr says -/
def mz_th (G : mz_G) (rm : Room) (below : List Frame) (A : Nat → Prop) (ad0 : Nat → Nat) (n0 : Nat) (thr : String → Nat → mz_H → Prop) (s : State) (t : State) : Prop :=
  ∃ (a : Addr) (ec : String) (cell : Cell) (ad : Nat → Nat) (n : Nat) (f : mz_H) (L : List Loc), t.status = .running ∧ Ended t below (.threw a) ∧ thr ec n f ∧ t.heap[a]? = some cell ∧ cell.vm.isStatics = false ∧ cell.vm ≠ .unknown ∧ s.vm.findClass ec = some cell.cls ∧ va_P G.2.1 nm_Cl (mz_w G.2.2 ad n f) t.heap ∧ va_D A (mz_w G.2.2 ad n f) ∧ va_F A s t ∧ mz_wf n f ∧ n0 ≤ n ∧ (∀ k, k < n0 ∨ mz_e0 ≤ k → ad k = ad0 k) ∧ s.WarmedH t.vm ∧ s.sameButNew ({ t with vm := s.vm } : State) L rm.cells rm.slots ∧ ∀ q ∈ L, A q.base
def mz_Z (G : mz_G) (rm : Room) (below : List Frame) (A : Nat → Prop) (ad0 : Nat → Nat) (n0 : Nat) (post : Option Value → Nat → mz_H → Prop) (thr : String → Nat → mz_H → Prop) (args : Array Value) (s : State) : State → Prop := fun t =>
  MQ below (mz_q G A ad0 n0 post) args s rm.cells rm.slots A t ∨ mz_th G rm below A ad0 n0 thr s t
theorem mz_wor {p : Program} {l : Launch} {e : Env} {R : Room} {s : State} {m : MethodId} {args : Array Value} {below : List Frame} {meth : Method} {c : Code} {H : Heap} {locs : List Loc} {cells slots : Nat} {Q Q' : State → Prop} {g : JFrame} (hQ : ∀ t, Q t → Q' t) (h : W p l e R s m args below meth c H locs cells slots Q g) : W p l e R s m args below meth c H locs cells slots Q' g := by
  intro T hT X
  obtain ⟨t, a, b⟩ := h T hT X
  exact ⟨t, a, hQ t b⟩
def mz_X (G : mz_G) (X : mz_E) (cn : Nat) (ini : Bool) (cc : ByteArray) (nL : Nat) (ret : Option FieldType) (rm : Room) (post : Option Value → Nat → mz_H → Prop) (thr : String → Nat → mz_H → Prop) (pc : Nat) (l : mz_L) (st : List Value) (k1 k2 n : Nat) (f : mz_H) : Prop :=
  k1 ≤ rm.cells → k2 ≤ rm.slots → mz_okL n l → mz_okS n st → ∀ (p : Program) (e : Env) (s : State) (m : MethodId) (args : Array Value) (below : List Frame) (meth : Method) (c : Code) (A : Nat → Prop) (H : Heap) (locs : List Loc) (ls : Array Slot) (ad ad0 : Nat → Nat) (n0 : Nat),
    mz_ok G cn ini cc nL ret A p s m args meth c → mz_rep G X A s ad ad0 n0 n f H locs → mz_lv ad ls nL l →
    W p G.1 e rm s m args below meth c H locs k1 k2 (mz_Z G rm below A ad0 n0 post thr args s) (F0 m pc ls (st.map (mz_v ad)))
/-- a jump's goal -/
def mz_t (pc : Nat) (off : Int) : Nat := ((pc : Int) + off).toNat
theorem mz_t_ok {pc : Nat} {off : Int} (h : 0 ≤ (pc : Int) + off) : (pc : Int) + off = (mz_t pc off : Int) := (Int.toNat_of_nonneg h).symm
def mz_fit (ty : FieldType) (v : Value) : Prop := narrow ty v = v ∧ fits ty v = true
theorem mz_fit_v {ty : FieldType} {v : Value} (ad : Nat → Nat) (h : mz_fit ty v) : mz_fit ty (mz_v ad v) := by
  cases v with
  | ref a =>
    obtain ⟨h1, h2⟩ := h
    cases ty <;> first | exact ⟨rfl, h2⟩ | exact ⟨rfl, rfl⟩ | (simp [fits] at h2)
  | _ => exact h
section MZ
variable {G : mz_G} {X : mz_E} {cn : Nat} {ini : Bool} {cc : ByteArray} {nL : Nat} {ret : Option FieldType} {rm : Room} {post : Option Value → Nat → mz_H → Prop} {thr : String → Nat → mz_H → Prop} {pc : Nat} {l : mz_L} {r : List Value} {k1 k2 n : Nat} {f : mz_H}
theorem mz_iconst {i : Int} (hd : decode cc pc = .ok (.iconst i, 1))  (h : mz_X G X cn ini cc nL ret rm post thr (pc + 1) (l) (.int (Int32.ofInt i) :: r) k1 k2 n (f)) : mz_X G X cn ini cc nL ret rm post thr (pc) (l) (r) k1 k2 n (f) := by
  intro hk1 hk2 hol hos p e s m args below meth c A H locs ls ad ad0 n0 ok rep hl
  obtain ⟨hx, hb, hml, hr, hown, hin, hlocks, hts, hns, hK, hA⟩ := id ok
  exact lv_iconst hx hb hd rfl (h hk1 hk2 hol (mz_okS_c trivial hos) p e s m args below meth c A H locs ls ad ad0 n0 ok rep hl)
theorem mz_bipush {i : Int} (hd : decode cc pc = .ok (.bipush i, 2))  (h : mz_X G X cn ini cc nL ret rm post thr (pc + 2) (l) (.int (Int8.ofInt i).toInt32 :: r) k1 k2 n (f)) : mz_X G X cn ini cc nL ret rm post thr (pc) (l) (r) k1 k2 n (f) := by
  intro hk1 hk2 hol hos p e s m args below meth c A H locs ls ad ad0 n0 ok rep hl
  obtain ⟨hx, hb, hml, hr, hown, hin, hlocks, hts, hns, hK, hA⟩ := id ok
  exact lv_bipush hx hb hd rfl (h hk1 hk2 hol (mz_okS_c trivial hos) p e s m args below meth c A H locs ls ad ad0 n0 ok rep hl)
theorem mz_sipush {i : Int} (hd : decode cc pc = .ok (.sipush i, 3))  (h : mz_X G X cn ini cc nL ret rm post thr (pc + 3) (l) (.int (Int16.ofInt i).toInt32 :: r) k1 k2 n (f)) : mz_X G X cn ini cc nL ret rm post thr (pc) (l) (r) k1 k2 n (f) := by
  intro hk1 hk2 hol hos p e s m args below meth c A H locs ls ad ad0 n0 ok rep hl
  obtain ⟨hx, hb, hml, hr, hown, hin, hlocks, hts, hns, hK, hA⟩ := id ok
  exact lv_sipush hx hb hd rfl (h hk1 hk2 hol (mz_okS_c trivial hos) p e s m args below meth c A H locs ls ad ad0 n0 ok rep hl)
theorem mz_lconst {i : Fin 2} (hd : decode cc pc = .ok (.lconst i, 1))  (h : mz_X G X cn ini cc nL ret rm post thr (pc + 1) (l) (.long (Int64.ofNat (i : Nat)) :: r) k1 k2 n (f)) : mz_X G X cn ini cc nL ret rm post thr (pc) (l) (r) k1 k2 n (f) := by
  intro hk1 hk2 hol hos p e s m args below meth c A H locs ls ad ad0 n0 ok rep hl
  obtain ⟨hx, hb, hml, hr, hown, hin, hlocks, hts, hns, hK, hA⟩ := id ok
  exact lv_lconst hx hb hd rfl (h hk1 hk2 hol (mz_okS_c trivial hos) p e s m args below meth c A H locs ls ad ad0 n0 ok rep hl)
theorem mz_null  (hd : decode cc pc = .ok (.aconst_null, 1))  (h : mz_X G X cn ini cc nL ret rm post thr (pc + 1) (l) (.null :: r) k1 k2 n (f)) : mz_X G X cn ini cc nL ret rm post thr (pc) (l) (r) k1 k2 n (f) := by
  intro hk1 hk2 hol hos p e s m args below meth c A H locs ls ad ad0 n0 ok rep hl
  obtain ⟨hx, hb, hml, hr, hown, hin, hlocks, hts, hns, hK, hA⟩ := id ok
  exact lv_null hx hb hd (h hk1 hk2 hol (mz_okS_c trivial hos) p e s m args below meth c A H locs ls ad ad0 n0 ok rep hl)
theorem mz_iadd {x y : Int32} (hd : decode cc pc = .ok (.iadd, 1))  (h : mz_X G X cn ini cc nL ret rm post thr (pc + 1) (l) (.int (x + y) :: r) k1 k2 n (f)) : mz_X G X cn ini cc nL ret rm post thr (pc) (l) (.int y :: .int x :: r) k1 k2 n (f) := by
  intro hk1 hk2 hol hos p e s m args below meth c A H locs ls ad ad0 n0 ok rep hl
  obtain ⟨hx, hb, hml, hr, hown, hin, hlocks, hts, hns, hK, hA⟩ := id ok
  exact lv_iadd hx hb hd (h hk1 hk2 hol (mz_okS_c trivial (mz_okS_tl (mz_okS_tl hos))) p e s m args below meth c A H locs ls ad ad0 n0 ok rep hl)
theorem mz_isub {x y : Int32} (hd : decode cc pc = .ok (.isub, 1))  (h : mz_X G X cn ini cc nL ret rm post thr (pc + 1) (l) (.int (x - y) :: r) k1 k2 n (f)) : mz_X G X cn ini cc nL ret rm post thr (pc) (l) (.int y :: .int x :: r) k1 k2 n (f) := by
  intro hk1 hk2 hol hos p e s m args below meth c A H locs ls ad ad0 n0 ok rep hl
  obtain ⟨hx, hb, hml, hr, hown, hin, hlocks, hts, hns, hK, hA⟩ := id ok
  exact lv_isub hx hb hd (h hk1 hk2 hol (mz_okS_c trivial (mz_okS_tl (mz_okS_tl hos))) p e s m args below meth c A H locs ls ad ad0 n0 ok rep hl)
theorem mz_imul {x y : Int32} (hd : decode cc pc = .ok (.imul, 1))  (h : mz_X G X cn ini cc nL ret rm post thr (pc + 1) (l) (.int (x * y) :: r) k1 k2 n (f)) : mz_X G X cn ini cc nL ret rm post thr (pc) (l) (.int y :: .int x :: r) k1 k2 n (f) := by
  intro hk1 hk2 hol hos p e s m args below meth c A H locs ls ad ad0 n0 ok rep hl
  obtain ⟨hx, hb, hml, hr, hown, hin, hlocks, hts, hns, hK, hA⟩ := id ok
  exact lv_imul hx hb hd (h hk1 hk2 hol (mz_okS_c trivial (mz_okS_tl (mz_okS_tl hos))) p e s m args below meth c A H locs ls ad ad0 n0 ok rep hl)
theorem mz_iand {x y : Int32} (hd : decode cc pc = .ok (.iand, 1))  (h : mz_X G X cn ini cc nL ret rm post thr (pc + 1) (l) (.int (x &&& y) :: r) k1 k2 n (f)) : mz_X G X cn ini cc nL ret rm post thr (pc) (l) (.int y :: .int x :: r) k1 k2 n (f) := by
  intro hk1 hk2 hol hos p e s m args below meth c A H locs ls ad ad0 n0 ok rep hl
  obtain ⟨hx, hb, hml, hr, hown, hin, hlocks, hts, hns, hK, hA⟩ := id ok
  exact lv_iand hx hb hd (h hk1 hk2 hol (mz_okS_c trivial (mz_okS_tl (mz_okS_tl hos))) p e s m args below meth c A H locs ls ad ad0 n0 ok rep hl)
theorem mz_ior {x y : Int32} (hd : decode cc pc = .ok (.ior, 1))  (h : mz_X G X cn ini cc nL ret rm post thr (pc + 1) (l) (.int (x ||| y) :: r) k1 k2 n (f)) : mz_X G X cn ini cc nL ret rm post thr (pc) (l) (.int y :: .int x :: r) k1 k2 n (f) := by
  intro hk1 hk2 hol hos p e s m args below meth c A H locs ls ad ad0 n0 ok rep hl
  obtain ⟨hx, hb, hml, hr, hown, hin, hlocks, hts, hns, hK, hA⟩ := id ok
  exact lv_ior hx hb hd (h hk1 hk2 hol (mz_okS_c trivial (mz_okS_tl (mz_okS_tl hos))) p e s m args below meth c A H locs ls ad ad0 n0 ok rep hl)
theorem mz_ixor {x y : Int32} (hd : decode cc pc = .ok (.ixor, 1))  (h : mz_X G X cn ini cc nL ret rm post thr (pc + 1) (l) (.int (x ^^^ y) :: r) k1 k2 n (f)) : mz_X G X cn ini cc nL ret rm post thr (pc) (l) (.int y :: .int x :: r) k1 k2 n (f) := by
  intro hk1 hk2 hol hos p e s m args below meth c A H locs ls ad ad0 n0 ok rep hl
  obtain ⟨hx, hb, hml, hr, hown, hin, hlocks, hts, hns, hK, hA⟩ := id ok
  exact lv_ixor hx hb hd (h hk1 hk2 hol (mz_okS_c trivial (mz_okS_tl (mz_okS_tl hos))) p e s m args below meth c A H locs ls ad ad0 n0 ok rep hl)
theorem mz_ishl {x y : Int32} (hd : decode cc pc = .ok (.ishl, 1))  (h : mz_X G X cn ini cc nL ret rm post thr (pc + 1) (l) (.int (x <<< (y &&& 31)) :: r) k1 k2 n (f)) : mz_X G X cn ini cc nL ret rm post thr (pc) (l) (.int y :: .int x :: r) k1 k2 n (f) := by
  intro hk1 hk2 hol hos p e s m args below meth c A H locs ls ad ad0 n0 ok rep hl
  obtain ⟨hx, hb, hml, hr, hown, hin, hlocks, hts, hns, hK, hA⟩ := id ok
  exact lv_ishl hx hb hd (h hk1 hk2 hol (mz_okS_c trivial (mz_okS_tl (mz_okS_tl hos))) p e s m args below meth c A H locs ls ad ad0 n0 ok rep hl)
theorem mz_ishr {x y : Int32} (hd : decode cc pc = .ok (.ishr, 1))  (h : mz_X G X cn ini cc nL ret rm post thr (pc + 1) (l) (.int (x >>> (y &&& 31)) :: r) k1 k2 n (f)) : mz_X G X cn ini cc nL ret rm post thr (pc) (l) (.int y :: .int x :: r) k1 k2 n (f) := by
  intro hk1 hk2 hol hos p e s m args below meth c A H locs ls ad ad0 n0 ok rep hl
  obtain ⟨hx, hb, hml, hr, hown, hin, hlocks, hts, hns, hK, hA⟩ := id ok
  exact lv_ishr hx hb hd (h hk1 hk2 hol (mz_okS_c trivial (mz_okS_tl (mz_okS_tl hos))) p e s m args below meth c A H locs ls ad ad0 n0 ok rep hl)
theorem mz_idiv {x y : Int32} (hd : decode cc pc = .ok (.idiv, 1)) (hs : ¬ y = 0) (h : mz_X G X cn ini cc nL ret rm post thr (pc + 1) (l) (.int (x / y) :: r) k1 k2 n (f)) : mz_X G X cn ini cc nL ret rm post thr (pc) (l) (.int y :: .int x :: r) k1 k2 n (f) := by
  intro hk1 hk2 hol hos p e s m args below meth c A H locs ls ad ad0 n0 ok rep hl
  obtain ⟨hx, hb, hml, hr, hown, hin, hlocks, hts, hns, hK, hA⟩ := id ok
  exact lv_idiv hx hb hd hs (h hk1 hk2 hol (mz_okS_c trivial (mz_okS_tl (mz_okS_tl hos))) p e s m args below meth c A H locs ls ad ad0 n0 ok rep hl)
theorem mz_irem {x y : Int32} (hd : decode cc pc = .ok (.irem, 1)) (hs : ¬ y = 0) (h : mz_X G X cn ini cc nL ret rm post thr (pc + 1) (l) (.int (x - x / y * y) :: r) k1 k2 n (f)) : mz_X G X cn ini cc nL ret rm post thr (pc) (l) (.int y :: .int x :: r) k1 k2 n (f) := by
  intro hk1 hk2 hol hos p e s m args below meth c A H locs ls ad ad0 n0 ok rep hl
  obtain ⟨hx, hb, hml, hr, hown, hin, hlocks, hts, hns, hK, hA⟩ := id ok
  exact lv_irem hx hb hd hs (h hk1 hk2 hol (mz_okS_c trivial (mz_okS_tl (mz_okS_tl hos))) p e s m args below meth c A H locs ls ad ad0 n0 ok rep hl)
theorem mz_ladd {x y : Int64} (hd : decode cc pc = .ok (.ladd, 1))  (h : mz_X G X cn ini cc nL ret rm post thr (pc + 1) (l) (.long (x + y) :: r) k1 k2 n (f)) : mz_X G X cn ini cc nL ret rm post thr (pc) (l) (.long y :: .long x :: r) k1 k2 n (f) := by
  intro hk1 hk2 hol hos p e s m args below meth c A H locs ls ad ad0 n0 ok rep hl
  obtain ⟨hx, hb, hml, hr, hown, hin, hlocks, hts, hns, hK, hA⟩ := id ok
  exact lv_ladd hx hb hd (h hk1 hk2 hol (mz_okS_c trivial (mz_okS_tl (mz_okS_tl hos))) p e s m args below meth c A H locs ls ad ad0 n0 ok rep hl)
theorem mz_lsub {x y : Int64} (hd : decode cc pc = .ok (.lsub, 1))  (h : mz_X G X cn ini cc nL ret rm post thr (pc + 1) (l) (.long (x - y) :: r) k1 k2 n (f)) : mz_X G X cn ini cc nL ret rm post thr (pc) (l) (.long y :: .long x :: r) k1 k2 n (f) := by
  intro hk1 hk2 hol hos p e s m args below meth c A H locs ls ad ad0 n0 ok rep hl
  obtain ⟨hx, hb, hml, hr, hown, hin, hlocks, hts, hns, hK, hA⟩ := id ok
  exact lv_lsub hx hb hd (h hk1 hk2 hol (mz_okS_c trivial (mz_okS_tl (mz_okS_tl hos))) p e s m args below meth c A H locs ls ad ad0 n0 ok rep hl)
theorem mz_lmul {x y : Int64} (hd : decode cc pc = .ok (.lmul, 1))  (h : mz_X G X cn ini cc nL ret rm post thr (pc + 1) (l) (.long (x * y) :: r) k1 k2 n (f)) : mz_X G X cn ini cc nL ret rm post thr (pc) (l) (.long y :: .long x :: r) k1 k2 n (f) := by
  intro hk1 hk2 hol hos p e s m args below meth c A H locs ls ad ad0 n0 ok rep hl
  obtain ⟨hx, hb, hml, hr, hown, hin, hlocks, hts, hns, hK, hA⟩ := id ok
  exact lv_lmul hx hb hd (h hk1 hk2 hol (mz_okS_c trivial (mz_okS_tl (mz_okS_tl hos))) p e s m args below meth c A H locs ls ad ad0 n0 ok rep hl)
theorem mz_land {x y : Int64} (hd : decode cc pc = .ok (.land, 1))  (h : mz_X G X cn ini cc nL ret rm post thr (pc + 1) (l) (.long (x &&& y) :: r) k1 k2 n (f)) : mz_X G X cn ini cc nL ret rm post thr (pc) (l) (.long y :: .long x :: r) k1 k2 n (f) := by
  intro hk1 hk2 hol hos p e s m args below meth c A H locs ls ad ad0 n0 ok rep hl
  obtain ⟨hx, hb, hml, hr, hown, hin, hlocks, hts, hns, hK, hA⟩ := id ok
  exact lv_land hx hb hd (h hk1 hk2 hol (mz_okS_c trivial (mz_okS_tl (mz_okS_tl hos))) p e s m args below meth c A H locs ls ad ad0 n0 ok rep hl)
theorem mz_lor {x y : Int64} (hd : decode cc pc = .ok (.lor, 1))  (h : mz_X G X cn ini cc nL ret rm post thr (pc + 1) (l) (.long (x ||| y) :: r) k1 k2 n (f)) : mz_X G X cn ini cc nL ret rm post thr (pc) (l) (.long y :: .long x :: r) k1 k2 n (f) := by
  intro hk1 hk2 hol hos p e s m args below meth c A H locs ls ad ad0 n0 ok rep hl
  obtain ⟨hx, hb, hml, hr, hown, hin, hlocks, hts, hns, hK, hA⟩ := id ok
  exact lv_lor hx hb hd (h hk1 hk2 hol (mz_okS_c trivial (mz_okS_tl (mz_okS_tl hos))) p e s m args below meth c A H locs ls ad ad0 n0 ok rep hl)
theorem mz_lxor {x y : Int64} (hd : decode cc pc = .ok (.lxor, 1))  (h : mz_X G X cn ini cc nL ret rm post thr (pc + 1) (l) (.long (x ^^^ y) :: r) k1 k2 n (f)) : mz_X G X cn ini cc nL ret rm post thr (pc) (l) (.long y :: .long x :: r) k1 k2 n (f) := by
  intro hk1 hk2 hol hos p e s m args below meth c A H locs ls ad ad0 n0 ok rep hl
  obtain ⟨hx, hb, hml, hr, hown, hin, hlocks, hts, hns, hK, hA⟩ := id ok
  exact lv_lxor hx hb hd (h hk1 hk2 hol (mz_okS_c trivial (mz_okS_tl (mz_okS_tl hos))) p e s m args below meth c A H locs ls ad ad0 n0 ok rep hl)
theorem mz_ldiv {x y : Int64} (hd : decode cc pc = .ok (.ldiv, 1)) (hs : ¬ y = 0) (h : mz_X G X cn ini cc nL ret rm post thr (pc + 1) (l) (.long (x / y) :: r) k1 k2 n (f)) : mz_X G X cn ini cc nL ret rm post thr (pc) (l) (.long y :: .long x :: r) k1 k2 n (f) := by
  intro hk1 hk2 hol hos p e s m args below meth c A H locs ls ad ad0 n0 ok rep hl
  obtain ⟨hx, hb, hml, hr, hown, hin, hlocks, hts, hns, hK, hA⟩ := id ok
  exact lv_ldiv hx hb hd hs (h hk1 hk2 hol (mz_okS_c trivial (mz_okS_tl (mz_okS_tl hos))) p e s m args below meth c A H locs ls ad ad0 n0 ok rep hl)
theorem mz_lrem {x y : Int64} (hd : decode cc pc = .ok (.lrem, 1)) (hs : ¬ y = 0) (h : mz_X G X cn ini cc nL ret rm post thr (pc + 1) (l) (.long (x - x / y * y) :: r) k1 k2 n (f)) : mz_X G X cn ini cc nL ret rm post thr (pc) (l) (.long y :: .long x :: r) k1 k2 n (f) := by
  intro hk1 hk2 hol hos p e s m args below meth c A H locs ls ad ad0 n0 ok rep hl
  obtain ⟨hx, hb, hml, hr, hown, hin, hlocks, hts, hns, hK, hA⟩ := id ok
  exact lv_lrem hx hb hd hs (h hk1 hk2 hol (mz_okS_c trivial (mz_okS_tl (mz_okS_tl hos))) p e s m args below meth c A H locs ls ad ad0 n0 ok rep hl)
theorem mz_lcmp {x y : Int64} (hd : decode cc pc = .ok (.lcmp, 1))  (h : mz_X G X cn ini cc nL ret rm post thr (pc + 1) (l) (.int (lg_cmp x y) :: r) k1 k2 n (f)) : mz_X G X cn ini cc nL ret rm post thr (pc) (l) (.long y :: .long x :: r) k1 k2 n (f) := by
  intro hk1 hk2 hol hos p e s m args below meth c A H locs ls ad ad0 n0 ok rep hl
  obtain ⟨hx, hb, hml, hr, hown, hin, hlocks, hts, hns, hK, hA⟩ := id ok
  exact W.lcmp hx hb hd (h hk1 hk2 hol (mz_okS_c trivial (mz_okS_tl (mz_okS_tl hos))) p e s m args below meth c A H locs ls ad ad0 n0 ok rep hl)
theorem mz_lshl {x : Int64} {y : Int32} (hd : decode cc pc = .ok (.lshl, 1))  (h : mz_X G X cn ini cc nL ret rm post thr (pc + 1) (l) (.long (x <<< (y.toInt64 &&& 63)) :: r) k1 k2 n (f)) : mz_X G X cn ini cc nL ret rm post thr (pc) (l) (.int y :: .long x :: r) k1 k2 n (f) := by
  intro hk1 hk2 hol hos p e s m args below meth c A H locs ls ad ad0 n0 ok rep hl
  obtain ⟨hx, hb, hml, hr, hown, hin, hlocks, hts, hns, hK, hA⟩ := id ok
  exact lv_lshl hx hb hd rfl (h hk1 hk2 hol (mz_okS_c trivial (mz_okS_tl (mz_okS_tl hos))) p e s m args below meth c A H locs ls ad ad0 n0 ok rep hl)
theorem mz_lshr {x : Int64} {y : Int32} (hd : decode cc pc = .ok (.lshr, 1))  (h : mz_X G X cn ini cc nL ret rm post thr (pc + 1) (l) (.long (x >>> (y.toInt64 &&& 63)) :: r) k1 k2 n (f)) : mz_X G X cn ini cc nL ret rm post thr (pc) (l) (.int y :: .long x :: r) k1 k2 n (f) := by
  intro hk1 hk2 hol hos p e s m args below meth c A H locs ls ad ad0 n0 ok rep hl
  obtain ⟨hx, hb, hml, hr, hown, hin, hlocks, hts, hns, hK, hA⟩ := id ok
  exact lv_lshr hx hb hd rfl (h hk1 hk2 hol (mz_okS_c trivial (mz_okS_tl (mz_okS_tl hos))) p e s m args below meth c A H locs ls ad ad0 n0 ok rep hl)
theorem mz_lushr {x : Int64} {y : Int32} (hd : decode cc pc = .ok (.lushr, 1))  (h : mz_X G X cn ini cc nL ret rm post thr (pc + 1) (l) (.long (x.toUInt64 >>> (y.toInt64.toUInt64 &&& Int64.toUInt64 63)).toInt64 :: r) k1 k2 n (f)) : mz_X G X cn ini cc nL ret rm post thr (pc) (l) (.int y :: .long x :: r) k1 k2 n (f) := by
  intro hk1 hk2 hol hos p e s m args below meth c A H locs ls ad ad0 n0 ok rep hl
  obtain ⟨hx, hb, hml, hr, hown, hin, hlocks, hts, hns, hK, hA⟩ := id ok
  exact lv_lushr hx hb hd rfl (h hk1 hk2 hol (mz_okS_c trivial (mz_okS_tl (mz_okS_tl hos))) p e s m args below meth c A H locs ls ad ad0 n0 ok rep hl)
theorem mz_ineg {x : Int32} (hd : decode cc pc = .ok (.ineg, 1))  (h : mz_X G X cn ini cc nL ret rm post thr (pc + 1) (l) (.int (-x) :: r) k1 k2 n (f)) : mz_X G X cn ini cc nL ret rm post thr (pc) (l) (.int x :: r) k1 k2 n (f) := by
  intro hk1 hk2 hol hos p e s m args below meth c A H locs ls ad ad0 n0 ok rep hl
  obtain ⟨hx, hb, hml, hr, hown, hin, hlocks, hts, hns, hK, hA⟩ := id ok
  exact lv_ineg hx hb hd (h hk1 hk2 hol (mz_okS_c trivial (mz_okS_tl hos)) p e s m args below meth c A H locs ls ad ad0 n0 ok rep hl)
theorem mz_i2l {x : Int32} (hd : decode cc pc = .ok (.i2l, 1))  (h : mz_X G X cn ini cc nL ret rm post thr (pc + 1) (l) (.long x.toInt64 :: r) k1 k2 n (f)) : mz_X G X cn ini cc nL ret rm post thr (pc) (l) (.int x :: r) k1 k2 n (f) := by
  intro hk1 hk2 hol hos p e s m args below meth c A H locs ls ad ad0 n0 ok rep hl
  obtain ⟨hx, hb, hml, hr, hown, hin, hlocks, hts, hns, hK, hA⟩ := id ok
  exact lv_i2l hx hb hd rfl (h hk1 hk2 hol (mz_okS_c trivial (mz_okS_tl hos)) p e s m args below meth c A H locs ls ad ad0 n0 ok rep hl)
theorem mz_l2i {x : Int64} (hd : decode cc pc = .ok (.l2i, 1))  (h : mz_X G X cn ini cc nL ret rm post thr (pc + 1) (l) (.int x.toInt32 :: r) k1 k2 n (f)) : mz_X G X cn ini cc nL ret rm post thr (pc) (l) (.long x :: r) k1 k2 n (f) := by
  intro hk1 hk2 hol hos p e s m args below meth c A H locs ls ad ad0 n0 ok rep hl
  obtain ⟨hx, hb, hml, hr, hown, hin, hlocks, hts, hns, hK, hA⟩ := id ok
  exact lv_l2i hx hb hd rfl (h hk1 hk2 hol (mz_okS_c trivial (mz_okS_tl hos)) p e s m args below meth c A H locs ls ad ad0 n0 ok rep hl)
theorem mz_i2b {x : Int32} (hd : decode cc pc = .ok (.i2b, 1))  (h : mz_X G X cn ini cc nL ret rm post thr (pc + 1) (l) (.int x.toInt8.toInt32 :: r) k1 k2 n (f)) : mz_X G X cn ini cc nL ret rm post thr (pc) (l) (.int x :: r) k1 k2 n (f) := by
  intro hk1 hk2 hol hos p e s m args below meth c A H locs ls ad ad0 n0 ok rep hl
  obtain ⟨hx, hb, hml, hr, hown, hin, hlocks, hts, hns, hK, hA⟩ := id ok
  exact lv_i2b hx hb hd rfl (h hk1 hk2 hol (mz_okS_c trivial (mz_okS_tl hos)) p e s m args below meth c A H locs ls ad ad0 n0 ok rep hl)
theorem mz_i2s {x : Int32} (hd : decode cc pc = .ok (.i2s, 1))  (h : mz_X G X cn ini cc nL ret rm post thr (pc + 1) (l) (.int x.toInt16.toInt32 :: r) k1 k2 n (f)) : mz_X G X cn ini cc nL ret rm post thr (pc) (l) (.int x :: r) k1 k2 n (f) := by
  intro hk1 hk2 hol hos p e s m args below meth c A H locs ls ad ad0 n0 ok rep hl
  obtain ⟨hx, hb, hml, hr, hown, hin, hlocks, hts, hns, hK, hA⟩ := id ok
  exact lv_i2s hx hb hd rfl (h hk1 hk2 hol (mz_okS_c trivial (mz_okS_tl hos)) p e s m args below meth c A H locs ls ad ad0 n0 ok rep hl)
theorem mz_dup {v : Value} (hd : decode cc pc = .ok (.dup, 1)) (hs : v.category = 1) (h : mz_X G X cn ini cc nL ret rm post thr (pc + 1) (l) (v :: v :: r) k1 k2 n (f)) : mz_X G X cn ini cc nL ret rm post thr (pc) (l) (v :: r) k1 k2 n (f) := by
  intro hk1 hk2 hol hos p e s m args below meth c A H locs ls ad ad0 n0 ok rep hl
  obtain ⟨hx, hb, hml, hr, hown, hin, hlocks, hts, hns, hK, hA⟩ := id ok
  exact lv_dup hx hb hd (by rw [mz_v_cat]; exact hs) (h hk1 hk2 hol (mz_okS_c (mz_okS_hd hos) hos) p e s m args below meth c A H locs ls ad ad0 n0 ok rep hl)
theorem mz_pop {v : Value} (hd : decode cc pc = .ok (.pop, 1)) (hs : v.category = 1) (h : mz_X G X cn ini cc nL ret rm post thr (pc + 1) (l) (r) k1 k2 n (f)) : mz_X G X cn ini cc nL ret rm post thr (pc) (l) (v :: r) k1 k2 n (f) := by
  intro hk1 hk2 hol hos p e s m args below meth c A H locs ls ad ad0 n0 ok rep hl
  obtain ⟨hx, hb, hml, hr, hown, hin, hlocks, hts, hns, hK, hA⟩ := id ok
  exact lv_pop (va := mz_v ad v) hx hb hd (by rw [mz_v_cat]; exact hs) (h hk1 hk2 hol (mz_okS_tl hos) p e s m args below meth c A H locs ls ad ad0 n0 ok rep hl)
theorem mz_dup_x1 {v w : Value} (hd : decode cc pc = .ok (.dup_x1, 1)) (hs : v.category = 1) (hs2 : w.category = 1) (h : mz_X G X cn ini cc nL ret rm post thr (pc + 1) (l) (v :: w :: v :: r) k1 k2 n (f)) : mz_X G X cn ini cc nL ret rm post thr (pc) (l) (v :: w :: r) k1 k2 n (f) := by
  intro hk1 hk2 hol hos p e s m args below meth c A H locs ls ad ad0 n0 ok rep hl
  obtain ⟨hx, hb, hml, hr, hown, hin, hlocks, hts, hns, hK, hA⟩ := id ok
  exact lv_dup_x1 hx hb hd (by rw [mz_v_cat]; exact hs) (by rw [mz_v_cat]; exact hs2) (h hk1 hk2 hol (mz_okS_c (mz_okS_hd hos) (mz_okS_c (mz_okS_hd (mz_okS_tl hos)) (mz_okS_c (mz_okS_hd hos) (mz_okS_tl (mz_okS_tl hos))))) p e s m args below meth c A H locs ls ad ad0 n0 ok rep hl)
theorem mz_dup2 {v w : Value} (hd : decode cc pc = .ok (.dup2, 1)) (hs : v.category = 1) (hs2 : w.category = 1) (h : mz_X G X cn ini cc nL ret rm post thr (pc + 1) (l) (v :: w :: v :: w :: r) k1 k2 n (f)) : mz_X G X cn ini cc nL ret rm post thr (pc) (l) (v :: w :: r) k1 k2 n (f) := by
  intro hk1 hk2 hol hos p e s m args below meth c A H locs ls ad ad0 n0 ok rep hl
  obtain ⟨hx, hb, hml, hr, hown, hin, hlocks, hts, hns, hK, hA⟩ := id ok
  exact lv_dup2_11 hx hb hd (by rw [mz_v_cat]; exact hs) (by rw [mz_v_cat]; exact hs2) (h hk1 hk2 hol (mz_okS_c (mz_okS_hd hos) (mz_okS_c (mz_okS_hd (mz_okS_tl hos)) hos)) p e s m args below meth c A H locs ls ad ad0 n0 ok rep hl)
theorem mz_iload {i : Nat} {x : Int32} (hd : decode cc pc = .ok (.iload i, 2)) (hi : l[i]? = some (some (.int x))) (h : mz_X G X cn ini cc nL ret rm post thr (pc + 2) (l) (.int x :: r) k1 k2 n (f)) : mz_X G X cn ini cc nL ret rm post thr (pc) (l) (r) k1 k2 n (f) := by
  intro hk1 hk2 hol hos p e s m args below meth c A H locs ls ad ad0 n0 ok rep hl
  obtain ⟨hx, hb, hml, hr, hown, hin, hlocks, hts, hns, hK, hA⟩ := id ok
  exact lv_iload hx hb hd (mz_lv_at hl hi) (h hk1 hk2 hol (mz_okS_c trivial hos) p e s m args below meth c A H locs ls ad ad0 n0 ok rep hl)
theorem mz_iload_n {i : Fin 4} {x : Int32} (hd : decode cc pc = .ok (.iload_n i, 1)) (hi : l[i.val]? = some (some (.int x))) (h : mz_X G X cn ini cc nL ret rm post thr (pc + 1) (l) (.int x :: r) k1 k2 n (f)) : mz_X G X cn ini cc nL ret rm post thr (pc) (l) (r) k1 k2 n (f) := by
  intro hk1 hk2 hol hos p e s m args below meth c A H locs ls ad ad0 n0 ok rep hl
  obtain ⟨hx, hb, hml, hr, hown, hin, hlocks, hts, hns, hK, hA⟩ := id ok
  exact lv_iload_n hx hb hd rfl (mz_lv_at hl hi) (h hk1 hk2 hol (mz_okS_c trivial hos) p e s m args below meth c A H locs ls ad ad0 n0 ok rep hl)
theorem mz_lload {i : Nat} {x : Int64} (hd : decode cc pc = .ok (.lload i, 2)) (hi : l[i]? = some (some (.long x))) (h : mz_X G X cn ini cc nL ret rm post thr (pc + 2) (l) (.long x :: r) k1 k2 n (f)) : mz_X G X cn ini cc nL ret rm post thr (pc) (l) (r) k1 k2 n (f) := by
  intro hk1 hk2 hol hos p e s m args below meth c A H locs ls ad ad0 n0 ok rep hl
  obtain ⟨hx, hb, hml, hr, hown, hin, hlocks, hts, hns, hK, hA⟩ := id ok
  exact lv_lload hx hb hd (mz_lv_at hl hi) (h hk1 hk2 hol (mz_okS_c trivial hos) p e s m args below meth c A H locs ls ad ad0 n0 ok rep hl)
theorem mz_lload_n {i : Fin 4} {x : Int64} (hd : decode cc pc = .ok (.lload_n i, 1)) (hi : l[i.val]? = some (some (.long x))) (h : mz_X G X cn ini cc nL ret rm post thr (pc + 1) (l) (.long x :: r) k1 k2 n (f)) : mz_X G X cn ini cc nL ret rm post thr (pc) (l) (r) k1 k2 n (f) := by
  intro hk1 hk2 hol hos p e s m args below meth c A H locs ls ad ad0 n0 ok rep hl
  obtain ⟨hx, hb, hml, hr, hown, hin, hlocks, hts, hns, hK, hA⟩ := id ok
  exact lv_lload_n hx hb hd rfl (mz_lv_at hl hi) (h hk1 hk2 hol (mz_okS_c trivial hos) p e s m args below meth c A H locs ls ad ad0 n0 ok rep hl)
theorem mz_aload {i : Nat} {x : Nat} (hd : decode cc pc = .ok (.aload i, 2)) (hi : l[i]? = some (some (.ref x))) (h : mz_X G X cn ini cc nL ret rm post thr (pc + 2) (l) (.ref x :: r) k1 k2 n (f)) : mz_X G X cn ini cc nL ret rm post thr (pc) (l) (r) k1 k2 n (f) := by
  intro hk1 hk2 hol hos p e s m args below meth c A H locs ls ad ad0 n0 ok rep hl
  obtain ⟨hx, hb, hml, hr, hown, hin, hlocks, hts, hns, hK, hA⟩ := id ok
  exact lv_aload hx hb hd (mz_lv_at hl hi) (h hk1 hk2 hol (mz_okS_c (mz_okL_get hol hi) hos) p e s m args below meth c A H locs ls ad ad0 n0 ok rep hl)
theorem mz_aload_n {i : Fin 4} {x : Nat} (hd : decode cc pc = .ok (.aload_n i, 1)) (hi : l[i.val]? = some (some (.ref x))) (h : mz_X G X cn ini cc nL ret rm post thr (pc + 1) (l) (.ref x :: r) k1 k2 n (f)) : mz_X G X cn ini cc nL ret rm post thr (pc) (l) (r) k1 k2 n (f) := by
  intro hk1 hk2 hol hos p e s m args below meth c A H locs ls ad ad0 n0 ok rep hl
  obtain ⟨hx, hb, hml, hr, hown, hin, hlocks, hts, hns, hK, hA⟩ := id ok
  exact lv_aload_n hx hb hd rfl (mz_lv_at hl hi) (h hk1 hk2 hol (mz_okS_c (mz_okL_get hol hi) hos) p e s m args below meth c A H locs ls ad ad0 n0 ok rep hl)
theorem mz_aloadN {i : Nat}  (hd : decode cc pc = .ok (.aload i, 2)) (hi : l[i]? = some (some (.null))) (h : mz_X G X cn ini cc nL ret rm post thr (pc + 2) (l) (.null :: r) k1 k2 n (f)) : mz_X G X cn ini cc nL ret rm post thr (pc) (l) (r) k1 k2 n (f) := by
  intro hk1 hk2 hol hos p e s m args below meth c A H locs ls ad ad0 n0 ok rep hl
  obtain ⟨hx, hb, hml, hr, hown, hin, hlocks, hts, hns, hK, hA⟩ := id ok
  exact lv_aloadN hx hb hd (mz_lv_at hl hi) (h hk1 hk2 hol (mz_okS_c (mz_okL_get hol hi) hos) p e s m args below meth c A H locs ls ad ad0 n0 ok rep hl)
theorem mz_aload_nN {i : Fin 4}  (hd : decode cc pc = .ok (.aload_n i, 1)) (hi : l[i.val]? = some (some (.null))) (h : mz_X G X cn ini cc nL ret rm post thr (pc + 1) (l) (.null :: r) k1 k2 n (f)) : mz_X G X cn ini cc nL ret rm post thr (pc) (l) (r) k1 k2 n (f) := by
  intro hk1 hk2 hol hos p e s m args below meth c A H locs ls ad ad0 n0 ok rep hl
  obtain ⟨hx, hb, hml, hr, hown, hin, hlocks, hts, hns, hK, hA⟩ := id ok
  exact lv_aload_nN hx hb hd rfl (mz_lv_at hl hi) (h hk1 hk2 hol (mz_okS_c (mz_okL_get hol hi) hos) p e s m args below meth c A H locs ls ad ad0 n0 ok rep hl)
theorem mz_istore {i : Nat} {x : Int32} (hd : decode cc pc = .ok (.istore i, 2)) (hn : i < nL) (h : mz_X G X cn ini cc nL ret rm post thr (pc + 2) (mz_s1 l i (.int x)) (r) k1 k2 n (f)) : mz_X G X cn ini cc nL ret rm post thr (pc) (l) (.int x :: r) k1 k2 n (f) := by
  intro hk1 hk2 hol hos p e s m args below meth c A H locs ls ad ad0 n0 ok rep hl
  obtain ⟨hx, hb, hml, hr, hown, hin, hlocks, hts, hns, hK, hA⟩ := id ok
  refine lv_istore hx hb hd hl hn rfl (fun ls' hl' => ?_)
  exact (h hk1 hk2 (mz_okL_s1 hol (mz_okS_hd hos)) (mz_okS_tl hos) p e s m args below meth c A H locs ls' ad ad0 n0 ok rep (mz_lv_s1 (ls := ls) (v := .int x) hl'))
theorem mz_istore_n {i : Fin 4} {x : Int32} (hd : decode cc pc = .ok (.istore_n i, 1)) (hn : i.val < nL) (h : mz_X G X cn ini cc nL ret rm post thr (pc + 1) (mz_s1 l i.val (.int x)) (r) k1 k2 n (f)) : mz_X G X cn ini cc nL ret rm post thr (pc) (l) (.int x :: r) k1 k2 n (f) := by
  intro hk1 hk2 hol hos p e s m args below meth c A H locs ls ad ad0 n0 ok rep hl
  obtain ⟨hx, hb, hml, hr, hown, hin, hlocks, hts, hns, hK, hA⟩ := id ok
  refine lv_istore_n hx hb hd rfl hl hn rfl (fun ls' hl' => ?_)
  exact (h hk1 hk2 (mz_okL_s1 hol (mz_okS_hd hos)) (mz_okS_tl hos) p e s m args below meth c A H locs ls' ad ad0 n0 ok rep (mz_lv_s1 (ls := ls) (v := .int x) hl'))
theorem mz_lstore {i : Nat} {x : Int64} (hd : decode cc pc = .ok (.lstore i, 2)) (hn : i + 1 < nL) (h : mz_X G X cn ini cc nL ret rm post thr (pc + 2) (mz_s2 l i (.long x)) (r) k1 k2 n (f)) : mz_X G X cn ini cc nL ret rm post thr (pc) (l) (.long x :: r) k1 k2 n (f) := by
  intro hk1 hk2 hol hos p e s m args below meth c A H locs ls ad ad0 n0 ok rep hl
  obtain ⟨hx, hb, hml, hr, hown, hin, hlocks, hts, hns, hK, hA⟩ := id ok
  refine lv_lstore hx hb hd hl hn rfl (fun ls' hl' => ?_)
  exact (h hk1 hk2 (mz_okL_s2 hol (mz_okS_hd hos)) (mz_okS_tl hos) p e s m args below meth c A H locs ls' ad ad0 n0 ok rep (mz_lv_s2 (ls := ls) (v := .long x) hl'))
theorem mz_lstore_n {i : Fin 4} {x : Int64} (hd : decode cc pc = .ok (.lstore_n i, 1)) (hn : i.val + 1 < nL) (h : mz_X G X cn ini cc nL ret rm post thr (pc + 1) (mz_s2 l i.val (.long x)) (r) k1 k2 n (f)) : mz_X G X cn ini cc nL ret rm post thr (pc) (l) (.long x :: r) k1 k2 n (f) := by
  intro hk1 hk2 hol hos p e s m args below meth c A H locs ls ad ad0 n0 ok rep hl
  obtain ⟨hx, hb, hml, hr, hown, hin, hlocks, hts, hns, hK, hA⟩ := id ok
  refine lv_lstore_n hx hb hd rfl hl hn rfl (fun ls' hl' => ?_)
  exact (h hk1 hk2 (mz_okL_s2 hol (mz_okS_hd hos)) (mz_okS_tl hos) p e s m args below meth c A H locs ls' ad ad0 n0 ok rep (mz_lv_s2 (ls := ls) (v := .long x) hl'))
theorem mz_astore {i : Nat} {x : Nat} (hd : decode cc pc = .ok (.astore i, 2)) (hn : i < nL) (h : mz_X G X cn ini cc nL ret rm post thr (pc + 2) (mz_s1 l i (.ref x)) (r) k1 k2 n (f)) : mz_X G X cn ini cc nL ret rm post thr (pc) (l) (.ref x :: r) k1 k2 n (f) := by
  intro hk1 hk2 hol hos p e s m args below meth c A H locs ls ad ad0 n0 ok rep hl
  obtain ⟨hx, hb, hml, hr, hown, hin, hlocks, hts, hns, hK, hA⟩ := id ok
  refine lv_astore hx hb hd hl hn rfl (fun ls' hl' => ?_)
  exact (h hk1 hk2 (mz_okL_s1 hol (mz_okS_hd hos)) (mz_okS_tl hos) p e s m args below meth c A H locs ls' ad ad0 n0 ok rep (mz_lv_s1 (ls := ls) (v := .ref x) hl'))
theorem mz_astore_n {i : Fin 4} {x : Nat} (hd : decode cc pc = .ok (.astore_n i, 1)) (hn : i.val < nL) (h : mz_X G X cn ini cc nL ret rm post thr (pc + 1) (mz_s1 l i.val (.ref x)) (r) k1 k2 n (f)) : mz_X G X cn ini cc nL ret rm post thr (pc) (l) (.ref x :: r) k1 k2 n (f) := by
  intro hk1 hk2 hol hos p e s m args below meth c A H locs ls ad ad0 n0 ok rep hl
  obtain ⟨hx, hb, hml, hr, hown, hin, hlocks, hts, hns, hK, hA⟩ := id ok
  refine lv_astore_n hx hb hd rfl hl hn rfl (fun ls' hl' => ?_)
  exact (h hk1 hk2 (mz_okL_s1 hol (mz_okS_hd hos)) (mz_okS_tl hos) p e s m args below meth c A H locs ls' ad ad0 n0 ok rep (mz_lv_s1 (ls := ls) (v := .ref x) hl'))
theorem mz_astoreN {i : Nat} (hd : decode cc pc = .ok (.astore i, 2)) (hn : i < nL) (h : mz_X G X cn ini cc nL ret rm post thr (pc + 2) (mz_s1 l i (.null)) (r) k1 k2 n (f)) : mz_X G X cn ini cc nL ret rm post thr (pc) (l) (.null :: r) k1 k2 n (f) := by
  intro hk1 hk2 hol hos p e s m args below meth c A H locs ls ad ad0 n0 ok rep hl
  obtain ⟨hx, hb, hml, hr, hown, hin, hlocks, hts, hns, hK, hA⟩ := id ok
  refine lv_astoreN hx hb hd hl hn rfl (fun ls' hl' => ?_)
  exact (h hk1 hk2 (mz_okL_s1 hol (mz_okS_hd hos)) (mz_okS_tl hos) p e s m args below meth c A H locs ls' ad ad0 n0 ok rep (mz_lv_s1 (ls := ls) (v := .null) hl'))
theorem mz_astore_nN {i : Fin 4} (hd : decode cc pc = .ok (.astore_n i, 1)) (hn : i.val < nL) (h : mz_X G X cn ini cc nL ret rm post thr (pc + 1) (mz_s1 l i.val (.null)) (r) k1 k2 n (f)) : mz_X G X cn ini cc nL ret rm post thr (pc) (l) (.null :: r) k1 k2 n (f) := by
  intro hk1 hk2 hol hos p e s m args below meth c A H locs ls ad ad0 n0 ok rep hl
  obtain ⟨hx, hb, hml, hr, hown, hin, hlocks, hts, hns, hK, hA⟩ := id ok
  refine lv_astore_nN hx hb hd rfl hl hn rfl (fun ls' hl' => ?_)
  exact (h hk1 hk2 (mz_okL_s1 hol (mz_okS_hd hos)) (mz_okS_tl hos) p e s m args below meth c A H locs ls' ad ad0 n0 ok rep (mz_lv_s1 (ls := ls) (v := .null) hl'))
theorem mz_iinc {i : Nat} {d : Int} {x : Int32} (hd : decode cc pc = .ok (.iinc i d, 3)) (hi : l[i]? = some (some (.int x))) (hn : i < nL) (h : mz_X G X cn ini cc nL ret rm post thr (pc + 3) (mz_s1 l i (.int (x + Int32.ofInt d))) (r) k1 k2 n (f)) : mz_X G X cn ini cc nL ret rm post thr (pc) (l) (r) k1 k2 n (f) := by
  intro hk1 hk2 hol hos p e s m args below meth c A H locs ls ad ad0 n0 ok rep hl
  obtain ⟨hx, hb, hml, hr, hown, hin, hlocks, hts, hns, hK, hA⟩ := id ok
  obtain ⟨k, hk⟩ := List.mem_iff_getElem?.mp (mz_pr_mem (ad := ad) (w := .int x) |>.mpr ⟨.int x, hi, rfl⟩)
  refine lv_iinc hx hb hd hl hk rfl hn rfl (fun ls' hl' => ?_)
  exact (h hk1 hk2 (mz_okL_s1 hol trivial) hos p e s m args below meth c A H locs ls' ad ad0 n0 ok rep (mz_lv_s1 (ls := ls) (v := .int (x + Int32.ofInt d)) hl'))
theorem mz_if_eq {x : Int32} {off : Int} (hd : decode cc pc = .ok (.ifCond .eq off, 3)) (h0 : 0 ≤ (pc : Int) + off) (ht : x = 0 → mz_X G X cn ini cc nL ret rm post thr (mz_t pc off) (l) (r) k1 k2 n (f)) (hf : ¬ x = 0 → mz_X G X cn ini cc nL ret rm post thr (pc + 3) (l) (r) k1 k2 n (f)) : mz_X G X cn ini cc nL ret rm post thr (pc) (l) (.int x :: r) k1 k2 n (f) := by
  intro hk1 hk2 hol hos p e s m args below meth c A H locs ls ad ad0 n0 ok rep hl
  obtain ⟨hx, hb, hml, hr, hown, hin, hlocks, hts, hns, hK, hA⟩ := id ok
  exact lv_if_eq hx hb hd (mz_t_ok h0) (fun q => (ht q hk1 hk2 hol (mz_okS_tl hos) p e s m args below meth c A H locs ls ad ad0 n0 ok rep hl)) (fun q => (hf q hk1 hk2 hol (mz_okS_tl hos) p e s m args below meth c A H locs ls ad ad0 n0 ok rep hl))
theorem mz_icmp_eq {x y : Int32} {off : Int} (hd : decode cc pc = .ok (.if_icmp .eq off, 3)) (h0 : 0 ≤ (pc : Int) + off) (ht : x = y → mz_X G X cn ini cc nL ret rm post thr (mz_t pc off) (l) (r) k1 k2 n (f)) (hf : ¬ x = y → mz_X G X cn ini cc nL ret rm post thr (pc + 3) (l) (r) k1 k2 n (f)) : mz_X G X cn ini cc nL ret rm post thr (pc) (l) (.int y :: .int x :: r) k1 k2 n (f) := by
  intro hk1 hk2 hol hos p e s m args below meth c A H locs ls ad ad0 n0 ok rep hl
  obtain ⟨hx, hb, hml, hr, hown, hin, hlocks, hts, hns, hK, hA⟩ := id ok
  exact lv_icmp_eq hx hb hd (mz_t_ok h0) (fun q => (ht q hk1 hk2 hol (mz_okS_tl (mz_okS_tl hos)) p e s m args below meth c A H locs ls ad ad0 n0 ok rep hl)) (fun q => (hf q hk1 hk2 hol (mz_okS_tl (mz_okS_tl hos)) p e s m args below meth c A H locs ls ad ad0 n0 ok rep hl))
theorem mz_if_ne {x : Int32} {off : Int} (hd : decode cc pc = .ok (.ifCond .ne off, 3)) (h0 : 0 ≤ (pc : Int) + off) (ht : ¬ x = 0 → mz_X G X cn ini cc nL ret rm post thr (mz_t pc off) (l) (r) k1 k2 n (f)) (hf : x = 0 → mz_X G X cn ini cc nL ret rm post thr (pc + 3) (l) (r) k1 k2 n (f)) : mz_X G X cn ini cc nL ret rm post thr (pc) (l) (.int x :: r) k1 k2 n (f) := by
  intro hk1 hk2 hol hos p e s m args below meth c A H locs ls ad ad0 n0 ok rep hl
  obtain ⟨hx, hb, hml, hr, hown, hin, hlocks, hts, hns, hK, hA⟩ := id ok
  exact lv_if_ne hx hb hd (mz_t_ok h0) (fun q => (ht q hk1 hk2 hol (mz_okS_tl hos) p e s m args below meth c A H locs ls ad ad0 n0 ok rep hl)) (fun q => (hf q hk1 hk2 hol (mz_okS_tl hos) p e s m args below meth c A H locs ls ad ad0 n0 ok rep hl))
theorem mz_icmp_ne {x y : Int32} {off : Int} (hd : decode cc pc = .ok (.if_icmp .ne off, 3)) (h0 : 0 ≤ (pc : Int) + off) (ht : ¬ x = y → mz_X G X cn ini cc nL ret rm post thr (mz_t pc off) (l) (r) k1 k2 n (f)) (hf : x = y → mz_X G X cn ini cc nL ret rm post thr (pc + 3) (l) (r) k1 k2 n (f)) : mz_X G X cn ini cc nL ret rm post thr (pc) (l) (.int y :: .int x :: r) k1 k2 n (f) := by
  intro hk1 hk2 hol hos p e s m args below meth c A H locs ls ad ad0 n0 ok rep hl
  obtain ⟨hx, hb, hml, hr, hown, hin, hlocks, hts, hns, hK, hA⟩ := id ok
  exact lv_icmp_ne hx hb hd (mz_t_ok h0) (fun q => (ht q hk1 hk2 hol (mz_okS_tl (mz_okS_tl hos)) p e s m args below meth c A H locs ls ad ad0 n0 ok rep hl)) (fun q => (hf q hk1 hk2 hol (mz_okS_tl (mz_okS_tl hos)) p e s m args below meth c A H locs ls ad ad0 n0 ok rep hl))
theorem mz_if_lt {x : Int32} {off : Int} (hd : decode cc pc = .ok (.ifCond .lt off, 3)) (h0 : 0 ≤ (pc : Int) + off) (ht : x < 0 → mz_X G X cn ini cc nL ret rm post thr (mz_t pc off) (l) (r) k1 k2 n (f)) (hf : ¬ x < 0 → mz_X G X cn ini cc nL ret rm post thr (pc + 3) (l) (r) k1 k2 n (f)) : mz_X G X cn ini cc nL ret rm post thr (pc) (l) (.int x :: r) k1 k2 n (f) := by
  intro hk1 hk2 hol hos p e s m args below meth c A H locs ls ad ad0 n0 ok rep hl
  obtain ⟨hx, hb, hml, hr, hown, hin, hlocks, hts, hns, hK, hA⟩ := id ok
  exact lv_if_lt hx hb hd (mz_t_ok h0) (fun q => (ht q hk1 hk2 hol (mz_okS_tl hos) p e s m args below meth c A H locs ls ad ad0 n0 ok rep hl)) (fun q => (hf q hk1 hk2 hol (mz_okS_tl hos) p e s m args below meth c A H locs ls ad ad0 n0 ok rep hl))
theorem mz_icmp_lt {x y : Int32} {off : Int} (hd : decode cc pc = .ok (.if_icmp .lt off, 3)) (h0 : 0 ≤ (pc : Int) + off) (ht : x < y → mz_X G X cn ini cc nL ret rm post thr (mz_t pc off) (l) (r) k1 k2 n (f)) (hf : ¬ x < y → mz_X G X cn ini cc nL ret rm post thr (pc + 3) (l) (r) k1 k2 n (f)) : mz_X G X cn ini cc nL ret rm post thr (pc) (l) (.int y :: .int x :: r) k1 k2 n (f) := by
  intro hk1 hk2 hol hos p e s m args below meth c A H locs ls ad ad0 n0 ok rep hl
  obtain ⟨hx, hb, hml, hr, hown, hin, hlocks, hts, hns, hK, hA⟩ := id ok
  exact lv_icmp_lt hx hb hd (mz_t_ok h0) (fun q => (ht q hk1 hk2 hol (mz_okS_tl (mz_okS_tl hos)) p e s m args below meth c A H locs ls ad ad0 n0 ok rep hl)) (fun q => (hf q hk1 hk2 hol (mz_okS_tl (mz_okS_tl hos)) p e s m args below meth c A H locs ls ad ad0 n0 ok rep hl))
theorem mz_if_ge {x : Int32} {off : Int} (hd : decode cc pc = .ok (.ifCond .ge off, 3)) (h0 : 0 ≤ (pc : Int) + off) (ht : 0 ≤ x → mz_X G X cn ini cc nL ret rm post thr (mz_t pc off) (l) (r) k1 k2 n (f)) (hf : ¬ 0 ≤ x → mz_X G X cn ini cc nL ret rm post thr (pc + 3) (l) (r) k1 k2 n (f)) : mz_X G X cn ini cc nL ret rm post thr (pc) (l) (.int x :: r) k1 k2 n (f) := by
  intro hk1 hk2 hol hos p e s m args below meth c A H locs ls ad ad0 n0 ok rep hl
  obtain ⟨hx, hb, hml, hr, hown, hin, hlocks, hts, hns, hK, hA⟩ := id ok
  exact lv_if_ge hx hb hd (mz_t_ok h0) (fun q => (ht q hk1 hk2 hol (mz_okS_tl hos) p e s m args below meth c A H locs ls ad ad0 n0 ok rep hl)) (fun q => (hf q hk1 hk2 hol (mz_okS_tl hos) p e s m args below meth c A H locs ls ad ad0 n0 ok rep hl))
theorem mz_icmp_ge {x y : Int32} {off : Int} (hd : decode cc pc = .ok (.if_icmp .ge off, 3)) (h0 : 0 ≤ (pc : Int) + off) (ht : y ≤ x → mz_X G X cn ini cc nL ret rm post thr (mz_t pc off) (l) (r) k1 k2 n (f)) (hf : ¬ y ≤ x → mz_X G X cn ini cc nL ret rm post thr (pc + 3) (l) (r) k1 k2 n (f)) : mz_X G X cn ini cc nL ret rm post thr (pc) (l) (.int y :: .int x :: r) k1 k2 n (f) := by
  intro hk1 hk2 hol hos p e s m args below meth c A H locs ls ad ad0 n0 ok rep hl
  obtain ⟨hx, hb, hml, hr, hown, hin, hlocks, hts, hns, hK, hA⟩ := id ok
  exact lv_icmp_ge hx hb hd (mz_t_ok h0) (fun q => (ht q hk1 hk2 hol (mz_okS_tl (mz_okS_tl hos)) p e s m args below meth c A H locs ls ad ad0 n0 ok rep hl)) (fun q => (hf q hk1 hk2 hol (mz_okS_tl (mz_okS_tl hos)) p e s m args below meth c A H locs ls ad ad0 n0 ok rep hl))
theorem mz_if_gt {x : Int32} {off : Int} (hd : decode cc pc = .ok (.ifCond .gt off, 3)) (h0 : 0 ≤ (pc : Int) + off) (ht : 0 < x → mz_X G X cn ini cc nL ret rm post thr (mz_t pc off) (l) (r) k1 k2 n (f)) (hf : ¬ 0 < x → mz_X G X cn ini cc nL ret rm post thr (pc + 3) (l) (r) k1 k2 n (f)) : mz_X G X cn ini cc nL ret rm post thr (pc) (l) (.int x :: r) k1 k2 n (f) := by
  intro hk1 hk2 hol hos p e s m args below meth c A H locs ls ad ad0 n0 ok rep hl
  obtain ⟨hx, hb, hml, hr, hown, hin, hlocks, hts, hns, hK, hA⟩ := id ok
  exact lv_if_gt hx hb hd (mz_t_ok h0) (fun q => (ht q hk1 hk2 hol (mz_okS_tl hos) p e s m args below meth c A H locs ls ad ad0 n0 ok rep hl)) (fun q => (hf q hk1 hk2 hol (mz_okS_tl hos) p e s m args below meth c A H locs ls ad ad0 n0 ok rep hl))
theorem mz_icmp_gt {x y : Int32} {off : Int} (hd : decode cc pc = .ok (.if_icmp .gt off, 3)) (h0 : 0 ≤ (pc : Int) + off) (ht : y < x → mz_X G X cn ini cc nL ret rm post thr (mz_t pc off) (l) (r) k1 k2 n (f)) (hf : ¬ y < x → mz_X G X cn ini cc nL ret rm post thr (pc + 3) (l) (r) k1 k2 n (f)) : mz_X G X cn ini cc nL ret rm post thr (pc) (l) (.int y :: .int x :: r) k1 k2 n (f) := by
  intro hk1 hk2 hol hos p e s m args below meth c A H locs ls ad ad0 n0 ok rep hl
  obtain ⟨hx, hb, hml, hr, hown, hin, hlocks, hts, hns, hK, hA⟩ := id ok
  exact lv_icmp_gt hx hb hd (mz_t_ok h0) (fun q => (ht q hk1 hk2 hol (mz_okS_tl (mz_okS_tl hos)) p e s m args below meth c A H locs ls ad ad0 n0 ok rep hl)) (fun q => (hf q hk1 hk2 hol (mz_okS_tl (mz_okS_tl hos)) p e s m args below meth c A H locs ls ad ad0 n0 ok rep hl))
theorem mz_if_le {x : Int32} {off : Int} (hd : decode cc pc = .ok (.ifCond .le off, 3)) (h0 : 0 ≤ (pc : Int) + off) (ht : x ≤ 0 → mz_X G X cn ini cc nL ret rm post thr (mz_t pc off) (l) (r) k1 k2 n (f)) (hf : ¬ x ≤ 0 → mz_X G X cn ini cc nL ret rm post thr (pc + 3) (l) (r) k1 k2 n (f)) : mz_X G X cn ini cc nL ret rm post thr (pc) (l) (.int x :: r) k1 k2 n (f) := by
  intro hk1 hk2 hol hos p e s m args below meth c A H locs ls ad ad0 n0 ok rep hl
  obtain ⟨hx, hb, hml, hr, hown, hin, hlocks, hts, hns, hK, hA⟩ := id ok
  exact lv_if_le hx hb hd (mz_t_ok h0) (fun q => (ht q hk1 hk2 hol (mz_okS_tl hos) p e s m args below meth c A H locs ls ad ad0 n0 ok rep hl)) (fun q => (hf q hk1 hk2 hol (mz_okS_tl hos) p e s m args below meth c A H locs ls ad ad0 n0 ok rep hl))
theorem mz_icmp_le {x y : Int32} {off : Int} (hd : decode cc pc = .ok (.if_icmp .le off, 3)) (h0 : 0 ≤ (pc : Int) + off) (ht : x ≤ y → mz_X G X cn ini cc nL ret rm post thr (mz_t pc off) (l) (r) k1 k2 n (f)) (hf : ¬ x ≤ y → mz_X G X cn ini cc nL ret rm post thr (pc + 3) (l) (r) k1 k2 n (f)) : mz_X G X cn ini cc nL ret rm post thr (pc) (l) (.int y :: .int x :: r) k1 k2 n (f) := by
  intro hk1 hk2 hol hos p e s m args below meth c A H locs ls ad ad0 n0 ok rep hl
  obtain ⟨hx, hb, hml, hr, hown, hin, hlocks, hts, hns, hK, hA⟩ := id ok
  exact lv_icmp_le hx hb hd (mz_t_ok h0) (fun q => (ht q hk1 hk2 hol (mz_okS_tl (mz_okS_tl hos)) p e s m args below meth c A H locs ls ad ad0 n0 ok rep hl)) (fun q => (hf q hk1 hk2 hol (mz_okS_tl (mz_okS_tl hos)) p e s m args below meth c A H locs ls ad ad0 n0 ok rep hl))
theorem mz_goto {off : Int} (hd : decode cc pc = .ok (.goto off, 3)) (h0 : 0 ≤ (pc : Int) + off) (h : mz_X G X cn ini cc nL ret rm post thr (mz_t pc off) (l) (r) k1 k2 n (f)) : mz_X G X cn ini cc nL ret rm post thr (pc) (l) (r) k1 k2 n (f) := by
  intro hk1 hk2 hol hos p e s m args below meth c A H locs ls ad ad0 n0 ok rep hl
  obtain ⟨hx, hb, hml, hr, hown, hin, hlocks, hts, hns, hK, hA⟩ := id ok
  exact lv_goto hx hb hd (mz_t_ok h0) (h hk1 hk2 hol hos p e s m args below meth c A H locs ls ad ad0 n0 ok rep hl)
theorem mz_ifnull {x : Nat} {off : Int} (hd : decode cc pc = .ok (.ifnull off, 3)) (h : mz_X G X cn ini cc nL ret rm post thr (pc + 3) (l) (r) k1 k2 n (f)) : mz_X G X cn ini cc nL ret rm post thr (pc) (l) (.ref x :: r) k1 k2 n (f) := by
  intro hk1 hk2 hol hos p e s m args below meth c A H locs ls ad ad0 n0 ok rep hl
  obtain ⟨hx, hb, hml, hr, hown, hin, hlocks, hts, hns, hK, hA⟩ := id ok
  exact lv_ifnull hx hb hd (h hk1 hk2 hol (mz_okS_tl hos) p e s m args below meth c A H locs ls ad ad0 n0 ok rep hl)
theorem mz_ifnonnull {x : Nat} {off : Int} (hd : decode cc pc = .ok (.ifnonnull off, 3)) (h0 : 0 ≤ (pc : Int) + off) (h : mz_X G X cn ini cc nL ret rm post thr (mz_t pc off) (l) (r) k1 k2 n (f)) : mz_X G X cn ini cc nL ret rm post thr (pc) (l) (.ref x :: r) k1 k2 n (f) := by
  intro hk1 hk2 hol hos p e s m args below meth c A H locs ls ad ad0 n0 ok rep hl
  obtain ⟨hx, hb, hml, hr, hown, hin, hlocks, hts, hns, hK, hA⟩ := id ok
  exact lv_ifnonnull hx hb hd (mz_t_ok h0) (h hk1 hk2 hol (mz_okS_tl hos) p e s m args below meth c A H locs ls ad ad0 n0 ok rep hl)
theorem mz_ifnullN {off : Int} (hd : decode cc pc = .ok (.ifnull off, 3)) (h0 : 0 ≤ (pc : Int) + off) (h : mz_X G X cn ini cc nL ret rm post thr (mz_t pc off) (l) (r) k1 k2 n (f)) : mz_X G X cn ini cc nL ret rm post thr (pc) (l) (.null :: r) k1 k2 n (f) := by
  intro hk1 hk2 hol hos p e s m args below meth c A H locs ls ad ad0 n0 ok rep hl
  obtain ⟨hx, hb, hml, hr, hown, hin, hlocks, hts, hns, hK, hA⟩ := id ok
  exact lv_ifnullN hx hb hd (mz_t_ok h0) (h hk1 hk2 hol (mz_okS_tl hos) p e s m args below meth c A H locs ls ad ad0 n0 ok rep hl)
theorem mz_ifnonnullN {off : Int} (hd : decode cc pc = .ok (.ifnonnull off, 3)) (h : mz_X G X cn ini cc nL ret rm post thr (pc + 3) (l) (r) k1 k2 n (f)) : mz_X G X cn ini cc nL ret rm post thr (pc) (l) (.null :: r) k1 k2 n (f) := by
  intro hk1 hk2 hol hos p e s m args below meth c A H locs ls ad ad0 n0 ok rep hl
  obtain ⟨hx, hb, hml, hr, hown, hin, hlocks, hts, hns, hK, hA⟩ := id ok
  exact lv_ifnonnullN hx hb hd (h hk1 hk2 hol (mz_okS_tl hos) p e s m args below meth c A H locs ls ad ad0 n0 ok rep hl)
theorem mz_table {x : Int32} {dflt lo hi : Int} {offs : Array Int} {len : Nat} (hd : decode cc pc = .ok (.tableswitch dflt lo hi offs, len)) (ho : (x.toInt < lo ∨ hi < x.toInt) → 0 ≤ (pc : Int) + dflt ∧ mz_X G X cn ini cc nL ret rm post thr (mz_t pc dflt) (l) (r) k1 k2 n (f)) (hi' : ¬ x.toInt < lo → ¬ hi < x.toInt → ∃ off, offs[(x.toInt - lo).toNat]? = some off ∧ 0 ≤ (pc : Int) + off ∧ mz_X G X cn ini cc nL ret rm post thr (mz_t pc off) (l) (r) k1 k2 n (f)) : mz_X G X cn ini cc nL ret rm post thr (pc) (l) (.int x :: r) k1 k2 n (f) := by
  intro hk1 hk2 hol hos p e s m args below meth c A H locs ls ad ad0 n0 ok rep hl
  obtain ⟨hx, hb, hml, hr, hown, hin, hlocks, hts, hns, hK, hA⟩ := id ok
  by_cases q1 : x.toInt < lo
  · obtain ⟨a, b⟩ := ho (Or.inl q1)
    exact lv_tableOut hx hb hd (Or.inl q1) (mz_t_ok a) (b hk1 hk2 hol (mz_okS_tl hos) p e s m args below meth c A H locs ls ad ad0 n0 ok rep hl)
  · by_cases q2 : hi < x.toInt
    · obtain ⟨a, b⟩ := ho (Or.inr q2)
      exact lv_tableOut hx hb hd (Or.inr q2) (mz_t_ok a) (b hk1 hk2 hol (mz_okS_tl hos) p e s m args below meth c A H locs ls ad ad0 n0 ok rep hl)
    · obtain ⟨off, a0, a, b⟩ := hi' q1 q2
      exact lv_tableIn hx hb hd q1 q2 a0 (mz_t_ok a) (b hk1 hk2 hol (mz_okS_tl hos) p e s m args below meth c A H locs ls ad ad0 n0 ok rep hl)
theorem mz_look {x : Int32} {dflt : Int} {ps : Array (Int × Int)} {len : Nat} {off : Int} (hd : decode cc pc = .ok (.lookupswitch dflt ps, len)) (hp : (ps.toList.zip (ps.toList.drop 1)).all (fun (a, next) => a.1 < next.1) = true) (ho : Op.lookupswitch.offset ps.toList dflt x.toInt = off) (h0 : 0 ≤ (pc : Int) + off) (h : mz_X G X cn ini cc nL ret rm post thr (mz_t pc off) (l) (r) k1 k2 n (f)) : mz_X G X cn ini cc nL ret rm post thr (pc) (l) (.int x :: r) k1 k2 n (f) := by
  intro hk1 hk2 hol hos p e s m args below meth c A H locs ls ad ad0 n0 ok rep hl
  obtain ⟨hx, hb, hml, hr, hown, hin, hlocks, hts, hns, hK, hA⟩ := id ok
  exact lv_lookup hx hb hd hp ho (mz_t_ok h0) (h hk1 hk2 hol (mz_okS_tl hos) p e s m args below meth c A H locs ls ad ad0 n0 ok rep hl)
theorem mz_ireturn {x : Int32} {ty : FieldType} (hd : decode cc pc = .ok (.ireturn, 1)) (hty : ret = some ty) (hn : narrow ty (.int x) = .int x) (h : post (some (.int x)) n f) : mz_X G X cn ini cc nL ret rm post thr (pc) (l) ([.int x]) k1 k2 n (f) := by
  intro hk1 hk2 hol hos p e s m args below meth c A H locs ls ad ad0 n0 ok rep hl
  obtain ⟨hx, hb, hml, hr, hown, hin, hlocks, hts, hns, hK, hA⟩ := id ok
  refine W.widen (k := rm.cells) (n := rm.slots) hk1 hk2 ?_
  obtain ⟨rP, rD, rS, rW, rN, rA, -⟩ := rep
  exact mz_wor (fun _ q => Or.inl q) <| W.zret hx hb (hr.trans hty) hn (fun t ht hW => ⟨some (.int x), ad, n, f, rfl, h, by rw [ht]; exact rP, rD, rS.F ht, rW, rN, rA, fun y hy => by cases hy; trivial⟩) rS.2.2 hd hlocks.1
theorem mz_lreturn {x : Int64} (hd : decode cc pc = .ok (.lreturn, 1)) (hty : ret = some .long) (h : post (some (.long x)) n f) : mz_X G X cn ini cc nL ret rm post thr (pc) (l) ([.long x]) k1 k2 n (f) := by
  intro hk1 hk2 hol hos p e s m args below meth c A H locs ls ad ad0 n0 ok rep hl
  obtain ⟨hx, hb, hml, hr, hown, hin, hlocks, hts, hns, hK, hA⟩ := id ok
  refine W.widen (k := rm.cells) (n := rm.slots) hk1 hk2 ?_
  obtain ⟨rP, rD, rS, rW, rN, rA, -⟩ := rep
  exact mz_wor (fun _ q => Or.inl q) <| W.lret hx hb (hr.trans hty) (fun t ht hW => ⟨some (.long x), ad, n, f, rfl, h, by rw [ht]; exact rP, rD, rS.F ht, rW, rN, rA, fun y hy => by cases hy; trivial⟩) rS.2.2 hd hlocks.1
theorem mz_areturn {v : Value} {ty : FieldType} (hd : decode cc pc = .ok (.areturn, 1)) (hty : ret = some ty) (hrt : (∃ n, ty = .object n) ∨ ∃ t, ty = .array t) (hv : v = .null ∨ ∃ a, v = .ref a) (h : post (some v) n f) : mz_X G X cn ini cc nL ret rm post thr (pc) (l) ([v]) k1 k2 n (f) := by
  intro hk1 hk2 hol hos p e s m args below meth c A H locs ls ad ad0 n0 ok rep hl
  obtain ⟨hx, hb, hml, hr, hown, hin, hlocks, hts, hns, hK, hA⟩ := id ok
  refine W.widen (k := rm.cells) (n := rm.slots) hk1 hk2 ?_
  obtain ⟨rP, rD, rS, rW, rN, rA, -⟩ := rep
  exact mz_wor (fun _ q => Or.inl q) <| W.aret hx hb (hr.trans hty) hrt (by rcases hv with rfl | ⟨a, rfl⟩; exact Or.inl rfl; exact Or.inr ⟨_, rfl⟩) (fun t ht hW => ⟨some v, ad, n, f, rfl, h, by rw [ht]; exact rP, rD, rS.F ht, rW, rN, rA, fun y hy => by cases hy; exact mz_okS_hd hos⟩) rS.2.2 hd hlocks.1
theorem mz_return (hd : decode cc pc = .ok (.return_, 1)) (hty : ret = none) (h : post none n f) : mz_X G X cn ini cc nL ret rm post thr (pc) (l) ([]) k1 k2 n (f) := by
  intro hk1 hk2 hol hos p e s m args below meth c A H locs ls ad ad0 n0 ok rep hl
  obtain ⟨hx, hb, hml, hr, hown, hin, hlocks, hts, hns, hK, hA⟩ := id ok
  refine W.widen (k := rm.cells) (n := rm.slots) hk1 hk2 ?_
  obtain ⟨rP, rD, rS, rW, rN, rA, -⟩ := rep
  exact mz_wor (fun _ q => Or.inl q) <| W.vret hx hb (hr.trans hty) (fun t ht hW => ⟨none, ad, n, f, rfl, h, by rw [ht]; exact rP, rD, rS.F ht, rW, rN, rA, fun y hy => by cases hy⟩) rS.2.2 hd hlocks.1
theorem mz_iald {a N : Nat} {g : Nat → Int32} {i : Int32} (hd : decode cc pc = .ok (.iaload, 1)) (ha : f a = .inl (0, N, .inl g)) (hi : vp_in i N) (h : mz_X G X cn ini cc nL ret rm post thr (pc + 1) (l) (.int (g i.toNatClampNeg) :: r) k1 k2 n (f)) : mz_X G X cn ini cc nL ret rm post thr (pc) (l) (.int i :: .ref a :: r) k1 k2 n (f) := by
  intro hk1 hk2 hol hos p e s m args below meth c A H locs ls ad ad0 n0 ok rep hl
  obtain ⟨hx, hb, hml, hr, hown, hin, hlocks, hts, hns, hK, hA⟩ := id ok
  obtain ⟨rP, rD, rS, rW, rN, rA, rX⟩ := id rep
  have hlt : a < n := mz_wf_lt rW (by rw [ha]; exact fun q => by cases q)
  have hg := mz_w_get (tA := G.2.2) (ad := ad) (f := f) hlt
  rw [ha] at hg
  exact va_iald hx hb hK rP a 0 hg (mz_ty_get nm_ty0) hi hd (h hk1 hk2 hol (mz_okS_c trivial (mz_okS_tl (mz_okS_tl hos))) p e s m args below meth c A H locs ls ad ad0 n0 ok rep hl)
theorem mz_bald {a N : Nat} {g : Nat → Int32} {i : Int32} (hd : decode cc pc = .ok (.baload, 1)) (ha : f a = .inl (1, N, .inl g)) (hi : vp_in i N) (h : mz_X G X cn ini cc nL ret rm post thr (pc + 1) (l) (.int (g i.toNatClampNeg) :: r) k1 k2 n (f)) : mz_X G X cn ini cc nL ret rm post thr (pc) (l) (.int i :: .ref a :: r) k1 k2 n (f) := by
  intro hk1 hk2 hol hos p e s m args below meth c A H locs ls ad ad0 n0 ok rep hl
  obtain ⟨hx, hb, hml, hr, hown, hin, hlocks, hts, hns, hK, hA⟩ := id ok
  obtain ⟨rP, rD, rS, rW, rN, rA, rX⟩ := id rep
  have hlt : a < n := mz_wf_lt rW (by rw [ha]; exact fun q => by cases q)
  have hg := mz_w_get (tA := G.2.2) (ad := ad) (f := f) hlt
  rw [ha] at hg
  exact va_bald hx hb hK rP a 1 hg (mz_ty_get nm_ty1) hi hd (h hk1 hk2 hol (mz_okS_c trivial (mz_okS_tl (mz_okS_tl hos))) p e s m args below meth c A H locs ls ad ad0 n0 ok rep hl)
theorem mz_sald {a N : Nat} {g : Nat → Int32} {i : Int32} (hd : decode cc pc = .ok (.saload, 1)) (ha : f a = .inl (2, N, .inl g)) (hi : vp_in i N) (h : mz_X G X cn ini cc nL ret rm post thr (pc + 1) (l) (.int (g i.toNatClampNeg) :: r) k1 k2 n (f)) : mz_X G X cn ini cc nL ret rm post thr (pc) (l) (.int i :: .ref a :: r) k1 k2 n (f) := by
  intro hk1 hk2 hol hos p e s m args below meth c A H locs ls ad ad0 n0 ok rep hl
  obtain ⟨hx, hb, hml, hr, hown, hin, hlocks, hts, hns, hK, hA⟩ := id ok
  obtain ⟨rP, rD, rS, rW, rN, rA, rX⟩ := id rep
  have hlt : a < n := mz_wf_lt rW (by rw [ha]; exact fun q => by cases q)
  have hg := mz_w_get (tA := G.2.2) (ad := ad) (f := f) hlt
  rw [ha] at hg
  exact va_sald hx hb hK rP a 2 hg (mz_ty_get nm_ty2) hi hd (h hk1 hk2 hol (mz_okS_c trivial (mz_okS_tl (mz_okS_tl hos))) p e s m args below meth c A H locs ls ad ad0 n0 ok rep hl)
theorem mz_lald {a N : Nat} {g : Nat → Int64} {i : Int32} (hd : decode cc pc = .ok (.laload, 1)) (ha : f a = .inl (3, N, .inr (.inl g))) (hi : vp_in i N) (h : mz_X G X cn ini cc nL ret rm post thr (pc + 1) (l) (.long (g i.toNatClampNeg) :: r) k1 k2 n (f)) : mz_X G X cn ini cc nL ret rm post thr (pc) (l) (.int i :: .ref a :: r) k1 k2 n (f) := by
  intro hk1 hk2 hol hos p e s m args below meth c A H locs ls ad ad0 n0 ok rep hl
  obtain ⟨hx, hb, hml, hr, hown, hin, hlocks, hts, hns, hK, hA⟩ := id ok
  obtain ⟨rP, rD, rS, rW, rN, rA, rX⟩ := id rep
  have hlt : a < n := mz_wf_lt rW (by rw [ha]; exact fun q => by cases q)
  have hg := mz_w_get (tA := G.2.2) (ad := ad) (f := f) hlt
  rw [ha] at hg
  exact va_lald hx hb hK rP a 3 hg (mz_ty_get nm_ty3) hi hd (h hk1 hk2 hol (mz_okS_c trivial (mz_okS_tl (mz_okS_tl hos))) p e s m args below meth c A H locs ls ad ad0 n0 ok rep hl)
theorem mz_iast {a N : Nat} {g : Nat → Int32} {i : Int32} {x : Int32} (hd : decode cc pc = .ok (.iastore, 1)) (ha : f a = .inl (0, N, .inl g)) (hi : vp_in i N) (h : mz_X G X cn ini cc nL ret rm post thr (pc + 1) (l) (r) k1 k2 n (mz_u f a (.inl (0, N, .inl (upd g i.toNatClampNeg x))))) : mz_X G X cn ini cc nL ret rm post thr (pc) (l) (.int x :: .int i :: .ref a :: r) k1 k2 n (f) := by
  intro hk1 hk2 hol hos p e s m args below meth c A H locs ls ad ad0 n0 ok rep hl
  obtain ⟨hx, hb, hml, hr, hown, hin, hlocks, hts, hns, hK, hA⟩ := id ok
  obtain ⟨rP, rD, rS, rW, rN, rA, rX⟩ := id rep
  have hnd : f a ≠ mz_d := by rw [ha]; exact fun q => by cases q
  have hlt : a < n := mz_wf_lt rW hnd
  have hg := mz_w_get (tA := G.2.2) (ad := ad) (f := f) hlt
  rw [ha] at hg
  refine va_iast hx hb hK rP rD rS a 0 hg (mz_ty_get nm_ty0) hi hd (fun H1 locs1 hP1 hD1 hS1 => ?_)
  have eW := mz_w_set (tA := G.2.2) (ad := ad) (n := n) (f := f) (k := a) (.inl (0, N, .inl (upd g i.toNatClampNeg x)))
  exact h hk1 hk2 hol (mz_okS_tl (mz_okS_tl (mz_okS_tl hos))) p e s m args below meth c A H1 locs1 ls ad ad0 n0 ok ⟨by rw [← eW]; exact hP1, by rw [← eW]; exact hD1, hS1, mz_wf_u rW hnd trivial, rN, rA, rX⟩ hl
theorem mz_bast {a N : Nat} {g : Nat → Int32} {i : Int32} {x : Int32} (hd : decode cc pc = .ok (.bastore, 1)) (ha : f a = .inl (1, N, .inl g)) (hi : vp_in i N) (h : mz_X G X cn ini cc nL ret rm post thr (pc + 1) (l) (r) k1 k2 n (mz_u f a (.inl (1, N, .inl (upd g i.toNatClampNeg (vp_nar .byte x)))))) : mz_X G X cn ini cc nL ret rm post thr (pc) (l) (.int x :: .int i :: .ref a :: r) k1 k2 n (f) := by
  intro hk1 hk2 hol hos p e s m args below meth c A H locs ls ad ad0 n0 ok rep hl
  obtain ⟨hx, hb, hml, hr, hown, hin, hlocks, hts, hns, hK, hA⟩ := id ok
  obtain ⟨rP, rD, rS, rW, rN, rA, rX⟩ := id rep
  have hnd : f a ≠ mz_d := by rw [ha]; exact fun q => by cases q
  have hlt : a < n := mz_wf_lt rW hnd
  have hg := mz_w_get (tA := G.2.2) (ad := ad) (f := f) hlt
  rw [ha] at hg
  refine va_bast hx hb hK rP rD rS a 1 hg (mz_ty_get nm_ty1) hi hd (fun H1 locs1 hP1 hD1 hS1 => ?_)
  have eW := mz_w_set (tA := G.2.2) (ad := ad) (n := n) (f := f) (k := a) (.inl (1, N, .inl (upd g i.toNatClampNeg (vp_nar .byte x))))
  exact h hk1 hk2 hol (mz_okS_tl (mz_okS_tl (mz_okS_tl hos))) p e s m args below meth c A H1 locs1 ls ad ad0 n0 ok ⟨by rw [← eW]; exact hP1, by rw [← eW]; exact hD1, hS1, mz_wf_u rW hnd trivial, rN, rA, rX⟩ hl
theorem mz_sast {a N : Nat} {g : Nat → Int32} {i : Int32} {x : Int32} (hd : decode cc pc = .ok (.sastore, 1)) (ha : f a = .inl (2, N, .inl g)) (hi : vp_in i N) (h : mz_X G X cn ini cc nL ret rm post thr (pc + 1) (l) (r) k1 k2 n (mz_u f a (.inl (2, N, .inl (upd g i.toNatClampNeg (vp_nar .short x)))))) : mz_X G X cn ini cc nL ret rm post thr (pc) (l) (.int x :: .int i :: .ref a :: r) k1 k2 n (f) := by
  intro hk1 hk2 hol hos p e s m args below meth c A H locs ls ad ad0 n0 ok rep hl
  obtain ⟨hx, hb, hml, hr, hown, hin, hlocks, hts, hns, hK, hA⟩ := id ok
  obtain ⟨rP, rD, rS, rW, rN, rA, rX⟩ := id rep
  have hnd : f a ≠ mz_d := by rw [ha]; exact fun q => by cases q
  have hlt : a < n := mz_wf_lt rW hnd
  have hg := mz_w_get (tA := G.2.2) (ad := ad) (f := f) hlt
  rw [ha] at hg
  refine va_sast hx hb hK rP rD rS a 2 hg (mz_ty_get nm_ty2) hi hd (fun H1 locs1 hP1 hD1 hS1 => ?_)
  have eW := mz_w_set (tA := G.2.2) (ad := ad) (n := n) (f := f) (k := a) (.inl (2, N, .inl (upd g i.toNatClampNeg (vp_nar .short x))))
  exact h hk1 hk2 hol (mz_okS_tl (mz_okS_tl (mz_okS_tl hos))) p e s m args below meth c A H1 locs1 ls ad ad0 n0 ok ⟨by rw [← eW]; exact hP1, by rw [← eW]; exact hD1, hS1, mz_wf_u rW hnd trivial, rN, rA, rX⟩ hl
theorem mz_last {a N : Nat} {g : Nat → Int64} {i : Int32} {x : Int64} (hd : decode cc pc = .ok (.lastore, 1)) (ha : f a = .inl (3, N, .inr (.inl g))) (hi : vp_in i N) (h : mz_X G X cn ini cc nL ret rm post thr (pc + 1) (l) (r) k1 k2 n (mz_u f a (.inl (3, N, .inr (.inl (vp_updL g i.toNatClampNeg x)))))) : mz_X G X cn ini cc nL ret rm post thr (pc) (l) (.long x :: .int i :: .ref a :: r) k1 k2 n (f) := by
  intro hk1 hk2 hol hos p e s m args below meth c A H locs ls ad ad0 n0 ok rep hl
  obtain ⟨hx, hb, hml, hr, hown, hin, hlocks, hts, hns, hK, hA⟩ := id ok
  obtain ⟨rP, rD, rS, rW, rN, rA, rX⟩ := id rep
  have hnd : f a ≠ mz_d := by rw [ha]; exact fun q => by cases q
  have hlt : a < n := mz_wf_lt rW hnd
  have hg := mz_w_get (tA := G.2.2) (ad := ad) (f := f) hlt
  rw [ha] at hg
  refine va_last hx hb hK rP rD rS a 3 hg (mz_ty_get nm_ty3) hi hd (fun H1 locs1 hP1 hD1 hS1 => ?_)
  have eW := mz_w_set (tA := G.2.2) (ad := ad) (n := n) (f := f) (k := a) (.inl (3, N, .inr (.inl (vp_updL g i.toNatClampNeg x))))
  exact h hk1 hk2 hol (mz_okS_tl (mz_okS_tl (mz_okS_tl hos))) p e s m args below meth c A H1 locs1 ls ad ad0 n0 ok ⟨by rw [← eW]; exact hP1, by rw [← eW]; exact hD1, hS1, mz_wf_u rW hnd trivial, rN, rA, rX⟩ hl
theorem mz_v_rf (ad : Nat → Nat) (o : Option Nat) : mz_v ad (va_rf o) = va_rf (o.map ad) := by cases o <;> rfl
theorem mz_okV_rf {n : Nat} {o : Option Nat} (h : ∀ a, o = some a → a < n) : mz_okV n (va_rf o) := by
  cases o with
  | none => trivial
  | some a => exact Or.inl (h a rfl)
theorem mz_aald {a N t : Nat} {g : Nat → Option Nat} {ty : FieldType} {i : Int32} (hd : decode cc pc = .ok (.aaload, 1)) (ha : f a = .inl (t, N, .inr (.inr (.inr (.inr g))))) (ht : nm_Ty[t]? = some ty) (hrt : ty.isReference = true) (hi : vp_in i N) (h : mz_X G X cn ini cc nL ret rm post thr (pc + 1) (l) (va_rf (g i.toNatClampNeg) :: r) k1 k2 n (f)) : mz_X G X cn ini cc nL ret rm post thr (pc) (l) (.int i :: .ref a :: r) k1 k2 n (f) := by
  intro hk1 hk2 hol hos p e s m args below meth c A H locs ls ad ad0 n0 ok rep hl
  obtain ⟨hx, hb, hml, hr, hown, hin, hlocks, hts, hns, hK, hA⟩ := id ok
  obtain ⟨rP, rD, rS, rW, rN, rA, rX⟩ := id rep
  have hlt : a < n := mz_wf_lt rW (by rw [ha]; exact fun q => by cases q)
  have hok := rW.2.1 a
  rw [ha] at hok
  have hg := mz_w_get (tA := G.2.2) (ad := ad) (f := f) hlt
  rw [ha] at hg
  have hlt2 : i.toNatClampNeg < N := Nat.not_le.mp fun q => hi (Or.inr q)
  have hcell : H[ad a]? = some (arrV (G.2.2 t) N (fun j => va_rf ((g j).map ad))) := rP a _ hg
  refine W.aald (v := va_rf ((g i.toNatClampNeg).map ad)) (ty := ty) hx hb hcell ((hK.2 t _ (mz_ty_get ht)).1 N (fun j => va_rf ((g j).map ad))) hrt (fun q => by cases q) (by rw [arrV_size]; exact hi) (by rw [arrV_read _ _ hlt2]) rfl rfl hd ?_
  rw [← mz_v_rf]
  exact (h hk1 hk2 hol (mz_okS_c (mz_okV_rf (fun z hz => hok _ z hz)) (mz_okS_tl (mz_okS_tl hos))) p e s m args below meth c A H locs ls ad ad0 n0 ok rep hl)
theorem mz_aast {a b N t ci : Nat} {g : Nat → Option Nat} {vs : List Value} {cl : vw_C} {i : Int32} (hd : decode cc pc = .ok (.aastore, 1)) (ha : f a = .inl (t, N, .inr (.inr (.inr (.inr g))))) (hb2 : f b = .inr (ci, vs)) (hc : nm_Cl[ci]? = some cl) (ht : nm_Ty[t]? = some (.object cl.1)) (hi : vp_in i N) (h : mz_X G X cn ini cc nL ret rm post thr (pc + 1) (l) (r) k1 k2 n (mz_u f a (.inl (t, N, .inr (.inr (.inr (.inr (va_up g i.toNatClampNeg (some b))))))))) : mz_X G X cn ini cc nL ret rm post thr (pc) (l) (.ref b :: .int i :: .ref a :: r) k1 k2 n (f) := by
  intro hk1 hk2 hol hos p e s m args below meth c A H locs ls ad ad0 n0 ok rep hl
  obtain ⟨hx, hb, hml, hr, hown, hin, hlocks, hts, hns, hK, hA⟩ := id ok
  obtain ⟨rP, rD, rS, rW, rN, rA, rX⟩ := id rep
  have hnd : f a ≠ mz_d := by rw [ha]; exact fun q => by cases q
  have hlt : a < n := mz_wf_lt rW hnd
  have hbl : b < n := by
    rcases mz_okS_hd hos with q | q
    · exact q
    · exfalso
      have h1 := rW.2.2 b (Nat.le_trans rW.1 q)
      rw [h1] at hb2
      have h2 : ci = 1000 := by injection hb2 with h2; injection h2 with h2; exact h2.symm
      rw [h2] at hc
      exact absurd hc nm_Cl_1000
  have hok := rW.2.1 a
  rw [ha] at hok
  have hg := mz_w_get (tA := G.2.2) (ad := ad) (f := f) hlt
  rw [ha] at hg
  have hgb := mz_w_get (tA := G.2.2) (ad := ad) (f := f) hbl
  rw [hb2] at hgb
  refine va_astq hx hb hK rP rD rS a t b ci hg (mz_ty_get ht) hgb hc hi hd (fun H1 locs1 hP1 hD1 hS1 => ?_)
  have eW := mz_w_set (tA := G.2.2) (ad := ad) (n := n) (f := f) (k := a) (.inl (t, N, .inr (.inr (.inr (.inr (va_up g i.toNatClampNeg (some b)))))))
  have eF : (fun j => (va_up g i.toNatClampNeg (some b) j).map ad) = va_up (fun j => (g j).map ad) i.toNatClampNeg (some (ad b)) := by
    funext j
    by_cases q : j = i.toNatClampNeg
    · simp [va_up, q]
    · simp [va_up, q]
  have eE : mz_e G.2.2 ad (.inl (t, N, .inr (.inr (.inr (.inr (va_up g i.toNatClampNeg (some b)))))) : mz_C) = .inl (G.2.2 t, N, .inr (.inr (.inr (.inr (va_up (fun j => (g j).map ad) i.toNatClampNeg (some (ad b))))))) := by
    rw [← eF]; rfl
  rw [eE] at eW
  exact h hk1 hk2 hol (mz_okS_tl (mz_okS_tl (mz_okS_tl hos))) p e s m args below meth c A H1 locs1 ls ad ad0 n0 ok ⟨by rw [← eW]; exact hP1, by rw [← eW]; exact hD1, hS1, mz_wf_u rW hnd (fun j z hz => by
    by_cases q : j = i.toNatClampNeg
    · simp [va_up, q] at hz; omega
    · simp [va_up, q] at hz; exact hok j z hz), rN, rA, rX⟩ hl
theorem mz_alen {a : Nat} {q : Nat × vp_A} {ty : FieldType} (hd : decode cc pc = .ok (.arraylength, 1)) (ha : f a = .inl q) (ht : nm_Ty[q.1]? = some ty) (h : mz_X G X cn ini cc nL ret rm post thr (pc + 1) (l) (.int (Int32.ofNat q.2.1) :: r) k1 k2 n (f)) : mz_X G X cn ini cc nL ret rm post thr (pc) (l) (.ref a :: r) k1 k2 n (f) := by
  intro hk1 hk2 hol hos p e s m args below meth c A H locs ls ad ad0 n0 ok rep hl
  obtain ⟨hx, hb, hml, hr, hown, hin, hlocks, hts, hns, hK, hA⟩ := id ok
  obtain ⟨rP, rD, rS, rW, rN, rA, rX⟩ := id rep
  have hlt : a < n := mz_wf_lt rW (by rw [ha]; exact fun q => by cases q)
  have hg := mz_w_get (tA := G.2.2) (ad := ad) (f := f) hlt
  rw [ha] at hg
  have hz : (mz_a ad q.2).1 = q.2.1 := by
    obtain ⟨t, N, g | g | g | g | g⟩ := q <;> rfl
  exact va_alen hx hb hK rP a q.1 hg (mz_ty_get ht) (by rw [hz]) hd (h hk1 hk2 hol (mz_okS_c trivial (mz_okS_tl hos)) p e s m args below meth c A H locs ls ad ad0 n0 ok rep hl)
theorem mz_xald {a N : Nat} {g : Nat → Int32} {i : Int32} (hd : decode cc pc = .ok (.iaload, 1)) (ha : X a = some (N, g)) (hi : vp_in i N) (h : mz_X G X cn ini cc nL ret rm post thr (pc + 1) (l) (.int (g i.toNatClampNeg) :: r) k1 k2 n (f)) : mz_X G X cn ini cc nL ret rm post thr (pc) (l) (.int i :: .ref a :: r) k1 k2 n (f) := by
  intro hk1 hk2 hol hos p e s m args below meth c A H locs ls ad ad0 n0 ok rep hl
  obtain ⟨hx, hb, hml, hr, hown, hin, hlocks, hts, hns, hK, hA⟩ := id ok
  obtain ⟨rP, rD, rS, rW, rN, rA, rX⟩ := id rep
  exact va_ti hx hb (rX.1 a N g ha).2 rS hi rfl hd (h hk1 hk2 hol (mz_okS_c trivial (mz_okS_tl (mz_okS_tl hos))) p e s m args below meth c A H locs ls ad ad0 n0 ok rep hl)
theorem mz_xlen {a N : Nat} {g : Nat → Int32} (hd : decode cc pc = .ok (.arraylength, 1)) (ha : X a = some (N, g)) (h : mz_X G X cn ini cc nL ret rm post thr (pc + 1) (l) (.int (Int32.ofNat N) :: r) k1 k2 n (f)) : mz_X G X cn ini cc nL ret rm post thr (pc) (l) (.ref a :: r) k1 k2 n (f) := by
  intro hk1 hk2 hol hos p e s m args below meth c A H locs ls ad ad0 n0 ok rep hl
  obtain ⟨hx, hb, hml, hr, hown, hin, hlocks, hts, hns, hK, hA⟩ := id ok
  obtain ⟨rP, rD, rS, rW, rN, rA, rX⟩ := id rep
  exact va_tlen hx hb (rX.1 a N g ha).2 rS rfl hd (h hk1 hk2 hol (mz_okS_c trivial (mz_okS_tl hos)) p e s m args below meth c A H locs ls ad ad0 n0 ok rep hl)
theorem mz_get {a ci k idx : Nat} {fs : List Value} {v : Value} (hd : decode cc pc = .ok (.getfield idx, 3)) (hF : nm_Fld cn idx = some (ci, k)) (ha : f a = .inr (ci, fs)) (hv : fs[k]? = some v) (h : mz_X G X cn ini cc nL ret rm post thr (pc + 3) (l) (v :: r) k1 k2 n (f)) : mz_X G X cn ini cc nL ret rm post thr (pc) (l) (.ref a :: r) k1 k2 n (f) := by
  intro hk1 hk2 hol hos p e s m args below meth c A H locs ls ad ad0 n0 ok rep hl
  obtain ⟨hx, hb, hml, hr, hown, hin, hlocks, hts, hns, hK, hA⟩ := id ok
  obtain ⟨rP, rD, rS, rW, rN, rA, rX⟩ := id rep
  obtain ⟨C, T, N, hc, hk, hl2⟩ := nm_Fld_ok hF
  have hnd : f a ≠ mz_d := by
    rw [ha]; intro q
    injection q with q; injection q with q1 q2
    rw [q2] at hv; cases hv
  have hlt : a < n := mz_wf_lt rW hnd
  have hok := rW.2.1 a
  rw [ha] at hok
  have hg := mz_w_get (tA := G.2.2) (ad := ad) (f := f) hlt
  rw [ha] at hg
  have hv2 : (fs.map (mz_v ad))[k]? = some (mz_v ad v) := by rw [List.getElem?_map, hv]; rfl
  rcases hl2 with hl2 | hl2
  · exact va_get hx hb hts (nm_Cl_ws hc) hown hK rP a hg hc k hk (hts _ hl2) (fun _ h9 => h9) hv2 hd (h hk1 hk2 hol (mz_okS_c (hok v (List.mem_of_getElem? hv)) (mz_okS_tl hos)) p e s m args below meth c A H locs ls ad ad0 n0 ok rep hl)
  · exact va_getN hx hb hts (nm_Cl_ws hc) hown hK rP a hg hc k hk (va_Nw.use rfl (hns _ hl2)) (fun _ h9 => h9) hv2 hd (h hk1 hk2 hol (mz_okS_c (hok v (List.mem_of_getElem? hv)) (mz_okS_tl hos)) p e s m args below meth c A H locs ls ad ad0 n0 ok rep hl)
theorem mz_put {a ci k idx : Nat} {fs : List Value} {v : Value} (hd : decode cc pc = .ok (.putfield idx, 3)) (hF : nm_Fld cn idx = some (ci, k)) (ha : f a = .inr (ci, fs)) (hkl : k < fs.length) (hfn : nm_Fin ci k = false) (hfit : mz_fit (nm_FTy ci k) v) (h : mz_X G X cn ini cc nL ret rm post thr (pc + 3) (l) (r) k1 k2 n (mz_u f a (.inr (ci, fs.set k v)))) : mz_X G X cn ini cc nL ret rm post thr (pc) (l) (v :: .ref a :: r) k1 k2 n (f) := by
  intro hk1 hk2 hol hos p e s m args below meth c A H locs ls ad ad0 n0 ok rep hl
  obtain ⟨hx, hb, hml, hr, hown, hin, hlocks, hts, hns, hK, hA⟩ := id ok
  obtain ⟨rP, rD, rS, rW, rN, rA, rX⟩ := id rep
  obtain ⟨C, T, N, hc, hk, hl2⟩ := nm_Fld_ok hF
  have hnd : f a ≠ mz_d := by
    rw [ha]; intro q
    injection q with q; injection q with q1 q2
    rw [q2] at hkl; exact absurd hkl (Nat.not_lt_zero _)
  have hlt : a < n := mz_wf_lt rW hnd
  have hok := rW.2.1 a
  rw [ha] at hok
  have hg := mz_w_get (tA := G.2.2) (ad := ad) (f := f) hlt
  rw [ha] at hg
  have hft := mz_fit_v ad hfit
  have eW := mz_w_set (tA := G.2.2) (ad := ad) (n := n) (f := f) (k := a) (.inr (ci, fs.set k v))
  have eE : mz_e G.2.2 ad (.inr (ci, fs.set k v) : mz_C) = .inr (ci, (fs.map (mz_v ad)).set k (mz_v ad v)) := by
    show Sum.inr (ci, (fs.set k v).map (mz_v ad)) = _
    rw [List.map_set]
  rw [eE] at eW
  have hkl2 : k < (fs.map (mz_v ad)).length := by rw [List.length_map]; exact hkl
  have kk : ∀ (H1 : Heap) (locs1 : List Loc), va_P G.2.1 nm_Cl ((mz_w G.2.2 ad n f).set a (ad a, .inr (ci, (fs.map (mz_v ad)).set k (mz_v ad v)))) H1 → va_D A ((mz_w G.2.2 ad n f).set a (ad a, .inr (ci, (fs.map (mz_v ad)).set k (mz_v ad v)))) → va_S A s.heap H1 locs1 → W p G.1 e rm s m args below meth c H1 locs1 k1 k2 (mz_Z G rm below A ad0 n0 post thr args s) (F0 m (pc + 3) ls (r.map (mz_v ad))) := by
    intro H1 locs1 hP1 hD1 hS1
    exact h hk1 hk2 hol (mz_okS_tl (mz_okS_tl hos)) p e s m args below meth c A H1 locs1 ls ad ad0 n0 ok ⟨by rw [← eW]; exact hP1, by rw [← eW]; exact hD1, hS1, mz_wf_u rW hnd (fun w hw => by
      rcases List.mem_or_eq_of_mem_set hw with q | q
      · exact hok w q
      · rw [q]; exact mz_okS_hd hos), rN, rA, rX⟩ hl
  have hfin : (T k).2.2.2 = false := (nm_Fin_ok hc hk).symm.trans hfn
  rcases hl2 with hl2 | hl2
  · exact va_put hx hb hts (nm_Cl_ws hc) (nm_FTy ci) (nm_Cl_ty hc) (nm_Cl_nm hc) hown hK rP rD rS a hg hc k hk (hts _ hl2) (fun _ h9 => h9) hfin (nm_Cl_ty hc k hk) hft.1 hft.2 hkl2 hd kk
  · exact va_putN hx hb hts (nm_Cl_ws hc) (nm_FTy ci) (nm_Cl_ty hc) (nm_Cl_nm hc) hown hK rP rD rS a hg hc k hk (va_Nw.use rfl (hns _ hl2)) (fun _ h9 => h9) hfin (nm_Cl_ty hc k hk) hft.1 hft.2 hkl2 hd kk
theorem mz_putF {a k idx : Nat} {fs : List Value} {v : Value} (hini : ini = true) (hd : decode cc pc = .ok (.putfield idx, 3)) (hF : nm_Fld cn idx = some (cn, k)) (hFl : nm_FldF cn idx = true) (ha : f a = .inr (cn, fs)) (hkl : k < fs.length) (hfn : nm_Fin cn k = true) (hfit : mz_fit (nm_FTy cn k) v) (h : mz_X G X cn ini cc nL ret rm post thr (pc + 3) (l) (r) k1 k2 n (mz_u f a (.inr (cn, fs.set k v)))) : mz_X G X cn ini cc nL ret rm post thr (pc) (l) (v :: .ref a :: r) k1 k2 n (f) := by
  intro hk1 hk2 hol hos p e s m args below meth c A H locs ls ad ad0 n0 ok rep hl
  obtain ⟨hx, hb, hml, hr, hown, hin, hlocks, hts, hns, hK, hA⟩ := id ok
  obtain ⟨rP, rD, rS, rW, rN, rA, rX⟩ := id rep
  obtain ⟨C, T, N, hc, hk, hl2⟩ := nm_FldF_ok hF hFl
  have hnd : f a ≠ mz_d := by
    rw [ha]; intro q
    injection q with q; injection q with q1 q2
    rw [q2] at hkl; exact absurd hkl (Nat.not_lt_zero _)
  have hlt : a < n := mz_wf_lt rW hnd
  have hok := rW.2.1 a
  rw [ha] at hok
  have hg := mz_w_get (tA := G.2.2) (ad := ad) (f := f) hlt
  rw [ha] at hg
  have hft := mz_fit_v ad hfit
  have eW := mz_w_set (tA := G.2.2) (ad := ad) (n := n) (f := f) (k := a) (.inr (cn, fs.set k v))
  have eE : mz_e G.2.2 ad (.inr (cn, fs.set k v) : mz_C) = .inr (cn, (fs.map (mz_v ad)).set k (mz_v ad v)) := by
    show Sum.inr (cn, (fs.set k v).map (mz_v ad)) = _
    rw [List.map_set]
  rw [eE] at eW
  have hkl2 : k < (fs.map (mz_v ad)).length := by rw [List.length_map]; exact hkl
  have kk : ∀ (H1 : Heap) (locs1 : List Loc), va_P G.2.1 nm_Cl ((mz_w G.2.2 ad n f).set a (ad a, .inr (cn, (fs.map (mz_v ad)).set k (mz_v ad v)))) H1 → va_D A ((mz_w G.2.2 ad n f).set a (ad a, .inr (cn, (fs.map (mz_v ad)).set k (mz_v ad v)))) → va_S A s.heap H1 locs1 → W p G.1 e rm s m args below meth c H1 locs1 k1 k2 (mz_Z G rm below A ad0 n0 post thr args s) (F0 m (pc + 3) ls (r.map (mz_v ad))) := by
    intro H1 locs1 hP1 hD1 hS1
    exact h hk1 hk2 hol (mz_okS_tl (mz_okS_tl hos)) p e s m args below meth c A H1 locs1 ls ad ad0 n0 ok ⟨by rw [← eW]; exact hP1, by rw [← eW]; exact hD1, hS1, mz_wf_u rW hnd (fun w hw => by
      rcases List.mem_or_eq_of_mem_set hw with q | q
      · exact hok w q
      · rw [q]; exact mz_okS_hd hos), rN, rA, rX⟩ hl
  have hfin : (T k).2.2.2 = true := (nm_Fin_ok hc hk).symm.trans hfn
  exact va_putF hx hb hts (nm_Cl_ws hc) (nm_FTy cn) (nm_Cl_ty hc) (nm_Cl_nm hc) hown hK rP rD rS a hg hc k hk (hts _ hl2) (fun _ h9 => h9) hfin (hin hini) (nm_Cl_own hc k hk) (nm_Cl_ty hc k hk) hft.1 hft.2 hkl2 hd kk
theorem mz_gets {a idx : Nat} (hd : decode cc pc = .ok (.getstatic idx, 3)) (hF : nm_Sta cn idx = some a) (hX : X a ≠ none) (h : mz_X G X cn ini cc nL ret rm post thr (pc + 3) (l) (.ref a :: r) k1 k2 n (f)) : mz_X G X cn ini cc nL ret rm post thr (pc) (l) (r) k1 k2 n (f) := by
  intro hk1 hk2 hol hos p e s m args below meth c A H locs ls ad ad0 n0 ok rep hl
  obtain ⟨hx, hb, hml, hr, hown, hin, hlocks, hts, hns, hK, hA⟩ := id ok
  obtain ⟨rP, rD, rS, rW, rN, rA, rX⟩ := id rep
  obtain ⟨q, hq, rfl, hl2⟩ := nm_Sta_ok hF
  have hz := rX.2.1 q hq hX
  have ha : mz_e0 ≤ q.1 := by
    cases hE : X q.1 with
    | none => exact absurd hE hX
    | some w => exact (rX.1 q.1 w.1 w.2 hE).1
  rcases hl2 with hl2 | hl2
  · exact va_gets hx hb hz rS hown (hts _ hl2) (fun _ h9 => h9) hd (h hk1 hk2 hol (mz_okS_c (Or.inr ha) hos) p e s m args below meth c A H locs ls ad ad0 n0 ok rep hl)
  · exact va_getsN hx hb hz rS hown (va_Nw.use rfl (hns _ hl2)) (fun _ h9 => h9) hd (h hk1 hk2 hol (mz_okS_c (Or.inr ha) hos) p e s m args below meth c A H locs ls ad ad0 n0 ok rep hl)
theorem mz_ldc {idx : Nat} {v : Int32} (hd : decode cc pc = .ok (.ldc idx, 2)) (hF : Jvm.Cond.constant (nm_Own cn) idx v ∈ nm_Ts) (h : mz_X G X cn ini cc nL ret rm post thr (pc + 2) (l) (.int v :: r) k1 k2 n (f)) : mz_X G X cn ini cc nL ret rm post thr (pc) (l) (r) k1 k2 n (f) := by
  intro hk1 hk2 hol hos p e s m args below meth c A H locs ls ad ad0 n0 ok rep hl
  obtain ⟨hx, hb, hml, hr, hown, hin, hlocks, hts, hns, hK, hA⟩ := id ok
  exact lv_ldc hx hb hown (hts _ hF) hd (h hk1 hk2 hol (mz_okS_c trivial hos) p e s m args below meth c A H locs ls ad ad0 n0 ok rep hl)
theorem mz_ldc2 {idx : Nat} {v : Int64} (hd : decode cc pc = .ok (.ldc2_w idx, 3)) (hF : Jvm.Cond.constantLong (nm_Own cn) idx v ∈ nm_Ts) (h : mz_X G X cn ini cc nL ret rm post thr (pc + 3) (l) (.long v :: r) k1 k2 n (f)) : mz_X G X cn ini cc nL ret rm post thr (pc) (l) (r) k1 k2 n (f) := by
  intro hk1 hk2 hol hos p e s m args below meth c A H locs ls ad ad0 n0 ok rep hl
  obtain ⟨hx, hb, hml, hr, hown, hin, hlocks, hts, hns, hK, hA⟩ := id ok
  exact lv_ldc2 hx hb hown (hts _ hF) hd (h hk1 hk2 hol (mz_okS_c trivial hos) p e s m args below meth c A H locs ls ad ad0 n0 ok rep hl)
end MZ
