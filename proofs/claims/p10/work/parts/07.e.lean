/-! what comes to a jack: -1 nothing, -2 two signs that differ -/
def arS (sign s : Int32) : Int32 := if s < 0 then sign else if s = sign then sign else if sign = -1 then s else -2
def arN (F T : Nat → Nat) (t : Nat → Nat) (to : Nat) : Nat → Int32
  | 0 => -1
  | k + 1 => if F k < 32 ∧ T k = to then arS (arN F T t to k) (nI (sgF F t k)) else arN F T t to k
theorem nI_nn' : ∀ c, c < 91 → ¬ nI c < 0 ∧ nI c ≠ -1 ∧ nI c ≠ -2 := by decide +kernel
theorem nI_nn {c : Nat} (h : sg c) : ¬ nI c < 0 ∧ nI c ≠ -1 ∧ nI c ≠ -2 := nI_nn' c (sg_lt h)
theorem arS_n {sign : Int32} {c : Nat} (h : sg c) : arS sign (nI c) = if nI c = sign then sign else if sign = -1 then nI c else -2 := if_neg (nI_nn h).1
theorem arN_v {F T t : Nat → Nat} {to w : Nat} (hs : ∀ k, k < w → F k < 32 → sg (sgF F t k)) : ∀ k, k ≤ w → arN F T t to k = -1 ∨ arN F T t to k = -2 ∨ ∃ c, sg c ∧ arN F T t to k = nI c := by
  intro k
  induction k with
  | zero => intro _; exact Or.inl rfl
  | succ k ih =>
    intro hk
    have q := ih (by omega)
    unfold arN
    by_cases h : F k < 32 ∧ T k = to
    · have g := hs k (by omega) h.1
      rw [if_pos h, arS_n g]
      by_cases e : nI (sgF F t k) = arN F T t to k
      · rw [if_pos e]; exact q
      · rw [if_neg e]
        by_cases e2 : arN F T t to k = -1
        · rw [if_pos e2]; exact Or.inr (Or.inr ⟨_, g, rfl⟩)
        · rw [if_neg e2]; exact Or.inr (Or.inl rfl)
    · rw [if_neg h]; exact q
/-- the jacks q .. q + N - 1 as the wires leave them -/
theorem brC_ar {F T t : Nat → Nat} {q N w : Nat} {z : (Nat → Int32) × Int32} (hs : ∀ k, k < w → F k < 32 → sg (sgF F t k)) (z1 : ∀ p, p < N → z.1 p = -1) (z2 : z.2 = nI 0) :
    ∀ k, k ≤ w → (∀ p, p < N → (arN F T t (q + p) k = -2 ∧ (brC F T t q N k z).1 p ≠ -1) ∨ (arN F T t (q + p) k ≠ -2 ∧ (brC F T t q N k z).1 p = arN F T t (q + p) k)) ∧ (((brC F T t q N k z).2 = nI 0 ∧ ∀ p, p < N → arN F T t (q + p) k ≠ -2) ∨ ((brC F T t q N k z).2 = nI 1 ∧ ∃ p, p < N ∧ arN F T t (q + p) k = -2)) := by
  intro k
  induction k with
  | zero =>
    intro _
    refine ⟨fun p hp => Or.inr ⟨by show (-1 : Int32) ≠ -2; decide, z1 p hp⟩, Or.inl ⟨z2, fun p hp => by show (-1 : Int32) ≠ -2; decide⟩⟩
  | succ k ih =>
    intro hk
    obtain ⟨i1, i2⟩ := ih (by omega)
    obtain ⟨y, hy⟩ : ∃ y, y = brC F T t q N k z := ⟨_, rfl⟩
    rw [← hy] at i1 i2
    have eb : brC F T t q N (k + 1) z = if F k < 32 ∧ q ≤ T k ∧ T k < q + N then (upd y.1 (T k - q) (nI (sgF F t k)), if y.1 (T k - q) = -1 ∨ y.1 (T k - q) = nI (sgF F t k) then y.2 else nI 1) else y := by rw [hy]; rfl
    have ea : ∀ p, arN F T t (q + p) (k + 1) = if F k < 32 ∧ T k = q + p then arS (arN F T t (q + p) k) (nI (sgF F t k)) else arN F T t (q + p) k := fun p => rfl
    rw [eb]
    by_cases h : F k < 32 ∧ q ≤ T k ∧ T k < q + N
    · rw [if_pos h]
      have g := hs k (by omega) h.1
      obtain ⟨g1, g2, g3⟩ := nI_nn g
      have hp0 : T k - q < N := by omega
      have other : ∀ p, p ≠ T k - q → arN F T t (q + p) (k + 1) = arN F T t (q + p) k := fun p hp => by rw [ea, if_neg (by omega)]
      have here : arN F T t (q + (T k - q)) (k + 1) = if nI (sgF F t k) = arN F T t (q + (T k - q)) k then arN F T t (q + (T k - q)) k else if arN F T t (q + (T k - q)) k = -1 then nI (sgF F t k) else -2 := by rw [ea, if_pos (by omega), arS_n g]
      have keep : ∀ p, p < N → p ≠ T k - q → (arN F T t (q + p) (k + 1) = -2 ∧ upd y.1 (T k - q) (nI (sgF F t k)) p ≠ -1) ∨ (arN F T t (q + p) (k + 1) ≠ -2 ∧ upd y.1 (T k - q) (nI (sgF F t k)) p = arN F T t (q + p) (k + 1)) := fun p hp e => by
        rw [other p e, pk_un e]; exact i1 p hp
      rcases i1 (T k - q) hp0 with ⟨b1, b2⟩ | ⟨b1, b2⟩
      · have e' : arN F T t (q + (T k - q)) (k + 1) = -2 := by
          rw [here, b1, if_neg g3, if_neg (by decide)]
        refine ⟨fun p hp => ?_, ?_⟩
        · by_cases e : p = T k - q
          · subst e; exact Or.inl ⟨e', by show upd y.1 (T k - q) (nI (sgF F t k)) (T k - q) ≠ -1; rw [pk_us]; exact g2⟩
          · exact keep p hp e
        · have y2 : y.2 = nI 1 := by
            rcases i2 with ⟨_, a2⟩ | ⟨a1, _⟩
            · exact absurd b1 (a2 _ hp0)
            · exact a1
          refine Or.inr ⟨?_, _, hp0, e'⟩
          show (if y.1 (T k - q) = -1 ∨ y.1 (T k - q) = nI (sgF F t k) then y.2 else nI 1) = nI 1
          rw [y2]; exact ite_self _
      · by_cases c1 : nI (sgF F t k) = arN F T t (q + (T k - q)) k
        · have e' : arN F T t (q + (T k - q)) (k + 1) = arN F T t (q + (T k - q)) k := by rw [here, if_pos c1]
          refine ⟨fun p hp => ?_, ?_⟩
          · by_cases e : p = T k - q
            · subst e; exact Or.inr ⟨by rw [e']; exact b1, by show upd y.1 (T k - q) (nI (sgF F t k)) (T k - q) = _; rw [pk_us, e']; exact c1⟩
            · exact keep p hp e
          · have ey : (if y.1 (T k - q) = -1 ∨ y.1 (T k - q) = nI (sgF F t k) then y.2 else nI 1) = y.2 := if_pos (Or.inr (by rw [b2]; exact c1.symm))
            show ((if y.1 (T k - q) = -1 ∨ y.1 (T k - q) = nI (sgF F t k) then y.2 else nI 1) = nI 0 ∧ _) ∨ ((if y.1 (T k - q) = -1 ∨ y.1 (T k - q) = nI (sgF F t k) then y.2 else nI 1) = nI 1 ∧ _)
            rw [ey]
            have same : ∀ p, arN F T t (q + p) (k + 1) = arN F T t (q + p) k := fun p => by
              by_cases e : p = T k - q
              · rw [e]; exact e'
              · exact other p e
            rcases i2 with ⟨a1, a2⟩ | ⟨a1, p, hp, a2⟩
            · exact Or.inl ⟨a1, fun p hp => by rw [same p]; exact a2 p hp⟩
            · exact Or.inr ⟨a1, p, hp, by rw [same p]; exact a2⟩
        · by_cases c2 : arN F T t (q + (T k - q)) k = -1
          · have e' : arN F T t (q + (T k - q)) (k + 1) = nI (sgF F t k) := by rw [here, if_neg c1, if_pos c2]
            refine ⟨fun p hp => ?_, ?_⟩
            · by_cases e : p = T k - q
              · subst e; exact Or.inr ⟨by rw [e']; exact g3, by show upd y.1 (T k - q) (nI (sgF F t k)) (T k - q) = _; rw [pk_us, e']⟩
              · exact keep p hp e
            · have ey : (if y.1 (T k - q) = -1 ∨ y.1 (T k - q) = nI (sgF F t k) then y.2 else nI 1) = y.2 := if_pos (Or.inl (b2.trans c2))
              show ((if y.1 (T k - q) = -1 ∨ y.1 (T k - q) = nI (sgF F t k) then y.2 else nI 1) = nI 0 ∧ _) ∨ ((if y.1 (T k - q) = -1 ∨ y.1 (T k - q) = nI (sgF F t k) then y.2 else nI 1) = nI 1 ∧ _)
              rw [ey]
              rcases i2 with ⟨a1, a2⟩ | ⟨a1, p, hp, a2⟩
              · refine Or.inl ⟨a1, fun p hp => ?_⟩
                by_cases e : p = T k - q
                · rw [e, e']; exact g3
                · rw [other p e]; exact a2 p hp
              · refine Or.inr ⟨a1, p, hp, ?_⟩
                by_cases e : p = T k - q
                · subst e; exact absurd a2 b1
                · rw [other p e]; exact a2
          · have e' : arN F T t (q + (T k - q)) (k + 1) = -2 := by rw [here, if_neg c1, if_neg c2]
            refine ⟨fun p hp => ?_, ?_⟩
            · by_cases e : p = T k - q
              · subst e; exact Or.inl ⟨e', by show upd y.1 (T k - q) (nI (sgF F t k)) (T k - q) ≠ -1; rw [pk_us]; exact g2⟩
              · exact keep p hp e
            · refine Or.inr ⟨?_, _, hp0, e'⟩
              show (if y.1 (T k - q) = -1 ∨ y.1 (T k - q) = nI (sgF F t k) then y.2 else nI 1) = nI 1
              rw [if_neg (fun z => ?_)]
              rcases z with z | z
              · exact c2 (b2.symm.trans z)
              · exact c1 (z.symm.trans b2)
    · rw [if_neg h]
      have same : ∀ p, p < N → arN F T t (q + p) (k + 1) = arN F T t (q + p) k := fun p hp => by rw [ea, if_neg (fun z => h ⟨z.1, by omega, by omega⟩)]
      refine ⟨fun p hp => by rw [same p hp]; exact i1 p hp, ?_⟩
      rcases i2 with ⟨a1, a2⟩ | ⟨a1, p, hp, a2⟩
      · exact Or.inl ⟨a1, fun p hp => by rw [same p hp]; exact a2 p hp⟩
      · exact Or.inr ⟨a1, p, hp, by rw [same p hp]; exact a2⟩
