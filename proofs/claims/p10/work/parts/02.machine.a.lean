/-! THE MACHINE OVER PURE CELLS. A world of cells 0 .. n-1 (abstract numbers), laid at real addresses by 'ad'; values hold abstract numbers. -/
abbrev mz_C : Type := (Nat × vp_A) ⊕ (Nat × List Value)
abbrev mz_H : Type := Nat → mz_C
abbrev mz_L : Type := List (Option Value)
abbrev mz_E : Type := Nat → Option (Nat × (Nat → Int32))
abbrev mz_G : Type := Launch × va_G × (Nat → ClassId)
/-- numbers from here on are cells outside of the world that nobody writes -/
def mz_e0 : Nat := 1000000000000
/-- what stands at a number that isn't a cell -/
def mz_d : mz_C := .inr (1000, [])
def mz_u (f : mz_H) (k : Nat) (v : mz_C) (j : Nat) : mz_C := if j = k then v else f j
theorem mz_u_s (f : mz_H) (k : Nat) (v : mz_C) : mz_u f k v k = v := by simp [mz_u]
theorem mz_u_n {f : mz_H} {k j : Nat} {v : mz_C} (h : j ≠ k) : mz_u f k v j = f j := by simp [mz_u, h]
def mz_v (ad : Nat → Nat) (v : Value) : Value := match v with
  | .ref k => .ref (ad k)
  | v => v
theorem mz_v_cat (ad : Nat → Nat) (v : Value) : (mz_v ad v).category = v.category := by cases v <;> rfl
def mz_a (ad : Nat → Nat) (a : vp_A) : vp_A := match a with
  | (n, .inr (.inr (.inr (.inr g)))) => (n, .inr (.inr (.inr (.inr (fun j => (g j).map ad)))))
  | a => a
def mz_e (tA : Nat → ClassId) (ad : Nat → Nat) (c : mz_C) : va_E := match c with
  | .inl q => .inl (tA q.1, mz_a ad q.2)
  | .inr o => .inr (o.1, o.2.map (mz_v ad))
def mz_w (tA : Nat → ClassId) (ad : Nat → Nat) (n : Nat) (f : mz_H) : va_W := (List.range n).map (fun k => (ad k, mz_e tA ad (f k)))
theorem mz_w_get {tA : Nat → ClassId} {ad : Nat → Nat} {n : Nat} {f : mz_H} {k : Nat} (h : k < n) : (mz_w tA ad n f)[k]? = some (ad k, mz_e tA ad (f k)) := by
  simp [mz_w, List.getElem?_map, List.getElem?_range h]
theorem mz_w_len {tA : Nat → ClassId} {ad : Nat → Nat} {n : Nat} {f : mz_H} : (mz_w tA ad n f).length = n := by simp [mz_w]
theorem mz_w_of {tA : Nat → ClassId} {ad : Nat → Nat} {n : Nat} {f : mz_H} {k : Nat} {q : Nat × va_E} (h : (mz_w tA ad n f)[k]? = some q) : k < n ∧ q = (ad k, mz_e tA ad (f k)) := by
  have hk : k < n := by
    have := (List.getElem?_eq_some_iff.mp h).1
    rwa [mz_w_len] at this
  refine ⟨hk, ?_⟩
  rw [mz_w_get hk] at h
  exact (Option.some.inj h).symm
theorem mz_w_set {tA : Nat → ClassId} {ad : Nat → Nat} {n : Nat} {f : mz_H} {k : Nat} (c : mz_C) : (mz_w tA ad n f).set k (ad k, mz_e tA ad c) = mz_w tA ad n (mz_u f k c) := by
  apply List.ext_getElem?
  intro i
  by_cases hi : i < n
  · rw [List.getElem?_set, mz_w_get hi, mz_w_get hi, mz_w_len]
    by_cases hk : k = i
    · subst hk
      simp [mz_u, hi]
    · rw [if_neg hk, mz_u_n (fun h => hk h.symm)]
  · rw [List.getElem?_eq_none (by rw [List.length_set, mz_w_len]; omega), List.getElem?_eq_none (by rw [mz_w_len]; omega)]
def mz_okV (n : Nat) (v : Value) : Prop := match v with
  | .ref k => k < n ∨ mz_e0 ≤ k
  | _ => True
def mz_okC (n : Nat) (c : mz_C) : Prop := match c with
  | .inr o => ∀ v ∈ o.2, mz_okV n v
  | .inl (_, _, .inr (.inr (.inr (.inr g)))) => ∀ j a, g j = some a → a < n
  | .inl _ => True
def mz_okS (n : Nat) (st : List Value) : Prop := ∀ v ∈ st, mz_okV n v
def mz_okL (n : Nat) (l : mz_L) : Prop := ∀ v, some v ∈ l → mz_okV n v
def mz_wf (n : Nat) (f : mz_H) : Prop := n ≤ mz_e0 ∧ (∀ k, mz_okC n (f k)) ∧ ∀ k, n ≤ k → f k = mz_d
theorem mz_okS_tl {n : Nat} {v : Value} {r : List Value} (h : mz_okS n (v :: r)) : mz_okS n r := fun w hw => h w (List.mem_cons_of_mem _ hw)
theorem mz_okS_hd {n : Nat} {v : Value} {r : List Value} (h : mz_okS n (v :: r)) : mz_okV n v := h v List.mem_cons_self
theorem mz_okS_c {n : Nat} {v : Value} {r : List Value} (h : mz_okV n v) (hr : mz_okS n r) : mz_okS n (v :: r) := fun w hw => by
  rcases List.mem_cons.mp hw with rfl | hw
  · exact h
  · exact hr w hw
theorem mz_okV_mono {n m : Nat} (h : n ≤ m) {v : Value} (hv : mz_okV n v) : mz_okV m v := by
  cases v <;> first | trivial | (rcases hv with hv | hv; exact Or.inl (Nat.lt_of_lt_of_le hv h); exact Or.inr hv)
theorem mz_v_eq {n : Nat} {ad ad' : Nat → Nat} (h : ∀ k, k < n ∨ mz_e0 ≤ k → ad' k = ad k) {v : Value} (hv : mz_okV n v) : mz_v ad' v = mz_v ad v := by
  cases v <;> first | rfl | (exact congrArg Value.ref (h _ hv))
theorem mz_e_eq {tA : Nat → ClassId} {n : Nat} {ad ad' : Nat → Nat} (h : ∀ k, k < n ∨ mz_e0 ≤ k → ad' k = ad k) {c : mz_C} (hc : mz_okC n c) : mz_e tA ad' c = mz_e tA ad c := by
  rcases c with ⟨t, m, g | g | g | g | g⟩ | ⟨ci, fs⟩
  · rfl
  · rfl
  · rfl
  · rfl
  · show Sum.inl _ = Sum.inl _
    congr 1
    show (tA t, (m, _)) = (tA t, (m, _))
    congr 6
    funext j
    cases hg : g j with
    | none => rfl
    | some a => exact congrArg some (h a (Or.inl (hc j a hg)))
  · show Sum.inr _ = Sum.inr _
    congr 2
    exact List.map_congr_left fun v hv => mz_v_eq h (hc v hv)
theorem mz_s_eq {n : Nat} {ad ad' : Nat → Nat} (h : ∀ k, k < n ∨ mz_e0 ≤ k → ad' k = ad k) {st : List Value} (hv : mz_okS n st) : st.map (mz_v ad') = st.map (mz_v ad) :=
  List.map_congr_left fun v hm => mz_v_eq h (hv v hm)
theorem mz_wf_lt {n : Nat} {f : mz_H} (h : mz_wf n f) {k : Nat} (hk : f k ≠ mz_d) : k < n := Nat.not_le.mp fun q => hk (h.2.2 k q)
theorem mz_wf_u {n : Nat} {f : mz_H} (h : mz_wf n f) {k : Nat} (hk : f k ≠ mz_d) {c : mz_C} (hc : mz_okC n c) : mz_wf n (mz_u f k c) := by
  have hlt := mz_wf_lt h hk
  refine ⟨h.1, fun j => ?_, fun j hj => ?_⟩
  · by_cases e : j = k
    · rw [e, mz_u_s]; exact hc
    · rw [mz_u_n e]; exact h.2.1 j
  · rw [mz_u_n (by omega)]; exact h.2.2 j hj
/-! the locals -/
def mz_pr (ad : Nat → Nat) (l : mz_L) : List (Nat × Value) := l.zipIdx.filterMap (fun q => q.1.map (fun v => (q.2, mz_v ad v)))
theorem mz_pr_mem {ad : Nat → Nat} {l : mz_L} {i : Nat} {w : Value} : (i, w) ∈ mz_pr ad l ↔ ∃ v, l[i]? = some (some v) ∧ w = mz_v ad v := by
  unfold mz_pr
  rw [List.mem_filterMap]
  constructor
  · rintro ⟨⟨o, j⟩, h1, h2⟩
    rw [List.mem_zipIdx_iff_getElem?] at h1
    cases o with
    | none => cases h2
    | some v =>
      simp only [Option.map_some, Option.some.injEq, Prod.mk.injEq] at h2
      obtain ⟨rfl, rfl⟩ := h2
      exact ⟨v, h1, rfl⟩
  · rintro ⟨v, h1, rfl⟩
    exact ⟨(some v, i), List.mem_zipIdx_iff_getElem?.mpr h1, rfl⟩
def mz_lv (ad : Nat → Nat) (ls : Array Slot) (nL : Nat) (l : mz_L) : Prop := lv_has ls nL (mz_pr ad l)
theorem mz_lv_at {ad : Nat → Nat} {ls : Array Slot} {nL : Nat} {l : mz_L} (h : mz_lv ad ls nL l) {i : Nat} {v : Value} (hi : l[i]? = some (some v)) : ls[i]? = some (.val (mz_v ad v)) :=
  h.2.2 (i, mz_v ad v) (mz_pr_mem.mpr ⟨v, hi, rfl⟩)
/-- a long that stands ahead of place i is gone when i is written -/
def mz_cl (l : mz_L) (i : Nat) : mz_L := match l[i - 1]? with
  | some (some v) => if v.category = 2 then l.set (i - 1) none else l
  | _ => l
theorem mz_cl_get {l : mz_L} {i j : Nat} {v : Value} (h : (mz_cl l i)[j]? = some (some v)) (hj : j ≠ i) : l[j]? = some (some v) ∧ ¬ (j + 1 = i ∧ v.category = 2) := by
  unfold mz_cl at h
  split at h
  · rename_i w hw
    split at h
    · rename_i hc
      rw [List.getElem?_set] at h
      by_cases e : i - 1 = j
      · rw [if_pos e] at h
        split at h <;> simp at h
      · rw [if_neg e] at h
        exact ⟨h, fun q => e (by omega)⟩
    · rename_i hc
      refine ⟨h, fun q => ?_⟩
      have e : i - 1 = j := by omega
      rw [e, h] at hw
      cases hw
      exact hc q.2
  · rename_i hno
    refine ⟨h, fun q => ?_⟩
    have e : i - 1 = j := by omega
    exact hno v (by rw [e]; exact h)
def mz_s1 (l : mz_L) (i : Nat) (v : Value) : mz_L := (mz_cl l i).set i (some v)
def mz_s2 (l : mz_L) (i : Nat) (v : Value) : mz_L := ((mz_cl l i).set i (some v)).set (i + 1) none
theorem mz_lv_s1 {ad : Nat → Nat} {ls ls' : Array Slot} {nL : Nat} {l : mz_L} {i : Nat} {v : Value} (h : lv_has ls' nL ((i, mz_v ad v) :: (mz_pr ad l).filter (fun q => !(q.1 == i) && !(q.1 + 1 == i && q.2.category == 2)))) : mz_lv ad ls' nL (mz_s1 l i v) := by
  refine ⟨h.1, h.2.1, fun q hq => ?_⟩
  obtain ⟨j, w⟩ := q
  obtain ⟨x, h1, rfl⟩ := mz_pr_mem.mp hq
  unfold mz_s1 at h1
  rw [List.getElem?_set] at h1
  by_cases e : i = j
  · rw [if_pos e] at h1
    subst e
    split at h1
    · cases h1
      exact h.2.2 (i, mz_v ad v) List.mem_cons_self
    · cases h1
  · rw [if_neg e] at h1
    obtain ⟨g1, g2⟩ := mz_cl_get h1 (fun q => e q.symm)
    refine h.2.2 (j, mz_v ad x) (List.mem_cons_of_mem _ (List.mem_filter.mpr ⟨mz_pr_mem.mpr ⟨x, g1, rfl⟩, ?_⟩))
    have e1 : (j == i) = false := by simp; exact fun q => e q.symm
    have e2 : (j + 1 == i && (mz_v ad x).category == 2) = false := by
      rw [mz_v_cat]
      simp
      intro q1 q2
      exact g2 ⟨q1, q2⟩
    simp only [e1, e2]
    rfl
theorem mz_lv_s2 {ad : Nat → Nat} {ls ls' : Array Slot} {nL : Nat} {l : mz_L} {i : Nat} {v : Value} (h : lv_has ls' nL ((i, mz_v ad v) :: (mz_pr ad l).filter (fun q => !(q.1 == i) && (!(q.1 == i + 1) && !(q.1 + 1 == i && q.2.category == 2))))) : mz_lv ad ls' nL (mz_s2 l i v) := by
  refine ⟨h.1, h.2.1, fun q hq => ?_⟩
  obtain ⟨j, w⟩ := q
  obtain ⟨x, h1, rfl⟩ := mz_pr_mem.mp hq
  unfold mz_s2 at h1
  rw [List.getElem?_set] at h1
  by_cases e0 : i + 1 = j
  · rw [if_pos e0] at h1
    split at h1 <;> simp at h1
  rw [if_neg e0, List.getElem?_set] at h1
  by_cases e : i = j
  · rw [if_pos e] at h1
    subst e
    split at h1
    · cases h1
      exact h.2.2 (i, mz_v ad v) List.mem_cons_self
    · cases h1
  · rw [if_neg e] at h1
    obtain ⟨g1, g2⟩ := mz_cl_get h1 (fun q => e q.symm)
    refine h.2.2 (j, mz_v ad x) (List.mem_cons_of_mem _ (List.mem_filter.mpr ⟨mz_pr_mem.mpr ⟨x, g1, rfl⟩, ?_⟩))
    have e1 : (j == i) = false := by simp; exact fun q => e q.symm
    have e3 : (j == i + 1) = false := by simp; exact fun q => e0 q.symm
    have e2 : (j + 1 == i && (mz_v ad x).category == 2) = false := by
      rw [mz_v_cat]
      simp
      intro q1 q2
      exact g2 ⟨q1, q2⟩
    simp only [e1, e2, e3]
    rfl
theorem mz_cl_mem {l : mz_L} {i : Nat} {v : Value} (h : some v ∈ mz_cl l i) : some v ∈ l := by
  unfold mz_cl at h
  split at h
  · split at h
    · rcases List.mem_or_eq_of_mem_set h with q | q
      · exact q
      · cases q
    · exact h
  · exact h
theorem mz_okL_s1 {n : Nat} {l : mz_L} {i : Nat} {v : Value} (h : mz_okL n l) (hv : mz_okV n v) : mz_okL n (mz_s1 l i v) := by
  intro w hw
  rcases List.mem_or_eq_of_mem_set hw with q | q
  · exact h w (mz_cl_mem q)
  · cases q; exact hv
theorem mz_okL_s2 {n : Nat} {l : mz_L} {i : Nat} {v : Value} (h : mz_okL n l) (hv : mz_okV n v) : mz_okL n (mz_s2 l i v) := by
  intro w hw
  rcases List.mem_or_eq_of_mem_set hw with q | q
  · rcases List.mem_or_eq_of_mem_set q with q | q
    · exact h w (mz_cl_mem q)
    · cases q; exact hv
  · cases q
theorem mz_okL_get {n : Nat} {l : mz_L} {i : Nat} {v : Value} (h : mz_okL n l) (hi : l[i]? = some (some v)) : mz_okV n v := h v (List.mem_of_getElem? hi)
theorem mz_lv_eq {n : Nat} {ad ad' : Nat → Nat} (h : ∀ k, k < n ∨ mz_e0 ≤ k → ad' k = ad k) {ls : Array Slot} {nL : Nat} {l : mz_L} (hl : mz_okL n l) (hv : mz_lv ad ls nL l) : mz_lv ad' ls nL l := by
  refine ⟨hv.1, hv.2.1, fun q hq => ?_⟩
  obtain ⟨j, w⟩ := q
  obtain ⟨x, h1, rfl⟩ := mz_pr_mem.mp hq
  show ls[j]? = some (.val (mz_v ad' x))
  rw [mz_v_eq h (mz_okL_get hl h1)]
  exact mz_lv_at hv h1
