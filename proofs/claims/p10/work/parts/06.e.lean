/-! orders: a row of cards by keys, those of one key in the order in which they lay -/
theorem ps_onto : ∀ (m : Nat) (π : Nat → Nat), (∀ a, a < m → π a < m) → (∀ a b, a < m → b < m → π a = π b → a = b) → ∀ r, r < m → ∃ a, a < m ∧ π a = r := by
  intro m
  induction m with
  | zero => intro π _ _ r hr; exact absurd hr (Nat.not_lt_zero _)
  | succ m ih =>
    intro π h1 h2 r hr
    have hs1 : ∀ a, a < m → (if π a = m then π m else π a) < m := by
      intro a ha
      have q1 := h1 a (by omega)
      have q2 := h1 m (by omega)
      split
      · rename_i e
        have : π m ≠ m := fun z => by
          have := h2 a m (by omega) (by omega) (e.trans z.symm)
          omega
        omega
      · omega
    have hs2 : ∀ a b, a < m → b < m → (if π a = m then π m else π a) = (if π b = m then π m else π b) → a = b := by
      intro a b ha hb e
      by_cases e1 : π a = m
      · by_cases e2 : π b = m
        · exact h2 a b (by omega) (by omega) (e1.trans e2.symm)
        · rw [if_pos e1, if_neg e2] at e
          have := h2 m b (by omega) (by omega) e
          omega
      · by_cases e2 : π b = m
        · rw [if_neg e1, if_pos e2] at e
          have := h2 a m (by omega) (by omega) e
          omega
        · rw [if_neg e1, if_neg e2] at e
          exact h2 a b (by omega) (by omega) e
    have on := ih (fun a => if π a = m then π m else π a) hs1 hs2
    have hm := h1 m (by omega)
    by_cases e : r = π m
    · exact ⟨m, by omega, e.symm⟩
    · by_cases er : r = m
      · obtain ⟨a, ha, q⟩ := on (π m) (by omega)
        have q' : (if π a = m then π m else π a) = π m := q
        by_cases e1 : π a = m
        · exact ⟨a, by omega, e1.trans er.symm⟩
        · rw [if_neg e1] at q'
          have := h2 a m (by omega) (by omega) q'
          omega
      · obtain ⟨a, ha, q⟩ := on r (by omega)
        have q' : (if π a = m then π m else π a) = r := q
        by_cases e1 : π a = m
        · rw [if_pos e1] at q'
          exact absurd q'.symm e
        · rw [if_neg e1] at q'
          exact ⟨a, by omega, q'⟩
def ltK (k : Nat → Nat) (i j : Nat) : Prop := k i < k j ∨ k i = k j ∧ i < j
/-- π tells 0 .. m - 1 in the order of the keys -/
def enu (k : Nat → Nat) (m : Nat) (π : Nat → Nat) : Prop := (∀ a, a < m → π a < m) ∧ ∀ a b, a < b → b < m → ltK k (π a) (π b)
theorem enu_inj {k π : Nat → Nat} {m a b : Nat} (h : enu k m π) (ha : a < m) (hb : b < m) (e : π a = π b) : a = b := by
  rcases Nat.lt_trichotomy a b with z | z | z
  · have := h.2 a b z hb; unfold ltK at this; rw [e] at this; omega
  · exact z
  · have := h.2 b a z ha; unfold ltK at this; rw [e] at this; omega
theorem enu_onto {k π : Nat → Nat} {m r : Nat} (h : enu k m π) (hr : r < m) : ∃ a, a < m ∧ π a = r := ps_onto m π h.1 (fun _ _ ha hb e => enu_inj h ha hb e) r hr
theorem enu_uniq {k π ρ : Nat → Nat} {m : Nat} (h1 : enu k m π) (h2 : enu k m ρ) : ∀ a, a < m → π a = ρ a := by
  intro a
  induction a using Nat.strongRecOn with
  | _ a ih =>
    intro ha
    by_cases e : π a = ρ a
    · exact e
    have tot : ltK k (π a) (ρ a) ∨ ltK k (ρ a) (π a) := by unfold ltK; omega
    rcases tot with t | t
    · obtain ⟨b, hb, q⟩ := enu_onto h2 (h1.1 a ha)
      rcases Nat.lt_trichotomy b a with z | z | z
      · have w := ih b z hb
        have := enu_inj h1 hb ha (w.trans q)
        omega
      · subst z; exact absurd q.symm e
      · have w := h2.2 a b z hb
        rw [q] at w
        unfold ltK at w t
        omega
    · obtain ⟨b, hb, q⟩ := enu_onto h1 (h2.1 a ha)
      rcases Nat.lt_trichotomy b a with z | z | z
      · have w := ih b z hb
        have := enu_inj h2 hb ha (w.symm.trans q)
        omega
      · subst z; exact q
      · have w := h1.2 a b z hb
        rw [q] at w
        unfold ltK at w t
        omega
theorem enu_cong {k k' π : Nat → Nat} {m : Nat} (h : enu k m π) (e : ∀ i, i < m → k i = k' i) : enu k' m π := by
  refine ⟨h.1, fun a b hab hb => ?_⟩
  have := h.2 a b hab hb
  unfold ltK at this ⊢
  rw [← e _ (h.1 a (by omega)), ← e _ (h.1 b hb)]
  exact this
theorem enu_id {k : Nat → Nat} {m : Nat} (h : ∀ i, i + 1 < m → k i ≤ k (i + 1)) : enu k m (fun i => i) := by
  refine ⟨fun a ha => ha, fun a b hab hb => ?_⟩
  have : ∀ d, a + d < m → k a ≤ k (a + d) := by
    intro d
    induction d with
    | zero => intro _; exact Nat.le_refl _
    | succ d ih => intro hd; exact Nat.le_trans (ih (by omega)) (h (a + d) hd)
  have w := this (b - a) (by omega)
  rw [show a + (b - a) = b by omega] at w
  show ltK k a b
  unfold ltK
  omega
theorem posP_ord {q : Nat → Nat} {m i j : Nat} (hi : i < m) (h : ltK q i j) : posP q m i < posP q m j := by
  unfold posP
  rcases h with h | ⟨h, hij⟩
  · have h1 := cntP_lt q hi
    have h2 := sm_mono (fun p => cntP q p m) (show q i + 1 ≤ q j from h)
    have h3 : sm (fun p => cntP q p m) (q i + 1) = sm (fun p => cntP q p m) (q i) + cntP q (q i) m := rfl
    omega
  · have h1 := cntP_lt q hij
    rw [h] at h1 ⊢
    omega
/-- a pass lays the row by a key ahead of the key by which it lay -/
theorem enu_pass {k Q π π' q : Nat → Nat} {m M P : Nat} (h : enu k m π) (hk : ∀ i, i < m → k i < M) (hq : ∀ r, r < m → q r = Q (π r)) (hP : ∀ r, r < m → q r < P) (h' : ∀ r, r < m → π' (posP q m r) = π r) : enu (fun i => Q i * M + k i) m π' := by
  have low : ∀ a, a < m → ∃ r, r < m ∧ posP q m r = a ∧ π' a = π r := by
    intro a ha
    obtain ⟨r, hr, e⟩ := posP_onto hP ha
    exact ⟨r, hr, e, by rw [← e]; exact h' r hr⟩
  refine ⟨fun a ha => ?_, fun a b hab hb => ?_⟩
  · obtain ⟨r, hr, -, e⟩ := low a ha
    rw [e]; exact h.1 r hr
  · obtain ⟨r, hr, er, e1⟩ := low a (by omega)
    obtain ⟨t, ht, et, e2⟩ := low b hb
    have hlt : ltK q r t := by
      rcases (show ltK q r t ∨ r = t ∨ ltK q t r by unfold ltK; omega) with z | z | z
      · exact z
      · subst z; omega
      · have := posP_ord ht z; omega
    rw [e1, e2]
    unfold ltK at hlt ⊢
    rw [hq r hr, hq t ht] at hlt
    have k1 := hk _ (h.1 r hr)
    have k2 := hk _ (h.1 t ht)
    rcases hlt with z | ⟨z, z2⟩
    · left
      have := Nat.mul_le_mul_right M (show Q (π r) + 1 ≤ Q (π t) from z)
      rw [Nat.add_mul] at this
      show Q (π r) * M + k (π r) < Q (π t) * M + k (π t)
      omega
    · have w := h.2 r t z2 ht
      unfold ltK at w
      show Q (π r) * M + k (π r) < Q (π t) * M + k (π t) ∨ Q (π r) * M + k (π r) = Q (π t) * M + k (π t) ∧ π r < π t
      rw [z]
      omega
/-! the key of a card on a field -/
def rkV (r : Nat) : Nat := if r = 0 then 32 else if r < 11 then r + 47 else if r < 22 then r + 69 else if r < 33 then r + 50 else r + 30
theorem rk_inv' : ∀ c, c < 91 → (c = 32 ∨ 48 ≤ c ∧ c ≤ 57 ∨ 65 ≤ c ∧ c ≤ 90) → rkV (rk c) = c := by decide +kernel
theorem rk_inj {c d : Nat} (hc : sg c) (hd : sg d) (e : rk c = rk d) : c = d := by
  have h1 := rk_inv' c (sg_lt hc) hc
  have h2 := rk_inv' d (sg_lt hd) hd
  rw [← h1, e]; exact h2
theorem rk_lt' : ∀ c, c < 91 → (c = 32 ∨ 48 ≤ c ∧ c ≤ 57 ∨ 65 ≤ c ∧ c ≤ 90) → rk c < 64 := by decide +kernel
theorem rk_lt {c : Nat} (hc : sg c) : rk c < 64 := rk_lt' c (sg_lt hc) hc
def keyF (t : Nat → Nat) : Nat → Nat → Nat
  | _, 0 => 0
  | k, m + 1 => rk (t k) * 64 ^ m + keyF t (k + 1) m
theorem keyF_lt {t : Nat → Nat} (ht : ∀ j, j < 16 → sg (t j)) : ∀ m k, k + m ≤ 16 → keyF t k m < 64 ^ m := by
  intro m
  induction m with
  | zero => intro k _; show 0 < 1; decide
  | succ m ih =>
    intro k hk
    have h1 := ih (k + 1) (by omega)
    have h2 := Nat.mul_le_mul_right (64 ^ m) (show rk (t k) + 1 ≤ 64 from rk_lt (ht k (by omega)))
    rw [Nat.add_mul] at h2
    show rk (t k) * 64 ^ m + keyF t (k + 1) m < 64 ^ (m + 1)
    rw [Nat.pow_succ]
    omega
theorem lx_lt {a b x y M : Nat} (hx : x < M) (h : a < b) : a * M + x < b * M + y := by
  have := Nat.mul_le_mul_right M (show a + 1 ≤ b from h)
  rw [Nat.add_mul] at this
  omega
theorem ic_sgn {a b : Nat} (ha : a < 2 ^ 31) (hb : b < 2 ^ 31) : (ic (nI a) (nI b) < 0 ↔ a < b) ∧ (ic (nI a) (nI b) = nI 0 ↔ a = b) := by
  unfold ic
  by_cases h : a < b
  · rw [if_pos ((nI_ltI ha hb).mpr h)]
    exact ⟨⟨fun _ => h, fun _ => by decide⟩, ⟨fun z => absurd z (by decide), fun z => by omega⟩⟩
  · rw [if_neg (fun z => h ((nI_ltI ha hb).mp z))]
    by_cases h2 : a = b
    · rw [if_pos (by rw [h2])]
      exact ⟨⟨fun z => absurd z (by decide), fun z => by omega⟩, ⟨fun _ => h2, fun _ => rfl⟩⟩
    · rw [if_neg (fun z => h2 ((nI_eq ha hb).mp z))]
      exact ⟨⟨fun z => absurd z (by decide), fun z => by omega⟩, ⟨fun z => absurd z (by decide), fun z => absurd z h2⟩⟩
theorem cmpK_key {s1 s2 : Nat → Nat} (h1 : ∀ j, j < 16 → sg (s1 j)) (h2 : ∀ j, j < 16 → sg (s2 j)) : ∀ m k, k + m ≤ 16 → (cmpK s1 s2 k m < 0 ↔ keyF s1 k m < keyF s2 k m) ∧ (cmpK s1 s2 k m = nI 0 ↔ keyF s1 k m = keyF s2 k m) := by
  intro m
  induction m with
  | zero => intro k _; exact ⟨⟨fun z => absurd (show nI 0 < (0 : Int32) from z) (by decide), fun z => absurd z (Nat.lt_irrefl _)⟩, ⟨fun _ => rfl, fun _ => rfl⟩⟩
  | succ m ih =>
    intro k hk
    have q := ih (k + 1) (by omega)
    unfold cmpK keyF
    by_cases e : s1 k = s2 k
    · rw [if_pos e, e]
      exact ⟨⟨fun z => by have := q.1.mp z; omega, fun z => q.1.mpr (by omega)⟩, ⟨fun z => by have := q.2.mp z; omega, fun z => q.2.mpr (by omega)⟩⟩
    · rw [if_neg e]
      have r1 := rk_lt (h1 k (by omega))
      have r2 := rk_lt (h2 k (by omega))
      have w := ic_sgn (a := rk (s1 k)) (b := rk (s2 k)) (by omega) (by omega)
      have b1 := keyF_lt h1 m (k + 1) (by omega)
      have b2 := keyF_lt h2 m (k + 1) (by omega)
      have ne : rk (s1 k) ≠ rk (s2 k) := fun z => e (rk_inj (h1 k (by omega)) (h2 k (by omega)) z)
      refine ⟨⟨fun z => lx_lt b1 (w.1.mp z), fun z => w.1.mpr ?_⟩, ⟨fun z => absurd (w.2.mp z) ne, fun z => ?_⟩⟩
      · rcases Nat.lt_or_ge (rk (s1 k)) (rk (s2 k)) with y | y
        · exact y
        · have := lx_lt (y := keyF s1 (k + 1) m) b2 (show rk (s2 k) < rk (s1 k) by omega)
          omega
      · exfalso
        rcases Nat.lt_or_ge (rk (s1 k)) (rk (s2 k)) with y | y
        · have := lx_lt (y := keyF s2 (k + 1) m) b1 y
          omega
        · have := lx_lt (y := keyF s1 (k + 1) m) b2 (show rk (s2 k) < rk (s1 k) by omega)
          omega
/-- the key of card x on the field from fr to to -/
def keyC (s : Nat → Nat → Nat) (fr to x : Nat) : Nat := keyF (s x) fr (to + 1 - fr)
theorem cmpC_key {s : Nat → Nat → Nat} {fr to x y : Nat} (hx : ∀ j, j < 16 → sg (s x j)) (hy : ∀ j, j < 16 → sg (s y j)) (hf : fr ≤ to) (ht : to < 16) : (cmpC s fr to x y < 0 ↔ keyC s fr to x < keyC s fr to y) ∧ (cmpC s fr to x y = nI 0 ↔ keyC s fr to x = keyC s fr to y) := cmpK_key hx hy (to + 1 - fr) fr (by omega)
theorem posP_inj {q : Nat → Nat} {m i j : Nat} (hi : i < m) (hj : j < m) (e : posP q m i = posP q m j) : i = j := by
  rcases (show ltK q i j ∨ i = j ∨ ltK q j i by unfold ltK; omega) with z | z | z
  · have := posP_ord hi z; omega
  · exact z
  · have := posP_ord hj z; omega
/-- what a pass does to a row -/
theorem pass_pi {q π : Nat → Nat} {P m : Nat} (hq : ∀ r, r < m → q r < P) : ∃ π' : Nat → Nat, ∀ r, r < m → π' (posP q m r) = π r := by
  have h : ∀ j, ∃ x, j < m → ∃ r, r < m ∧ posP q m r = j ∧ x = π r := by
    intro j
    by_cases hj : j < m
    · obtain ⟨r, a, b⟩ := posP_onto hq hj
      exact ⟨π r, fun _ => ⟨r, a, b, rfl⟩⟩
    · exact ⟨0, fun z => absurd z hj⟩
  refine ⟨fun j => Classical.choose (h j), fun r hr => ?_⟩
  obtain ⟨r', a, b, e⟩ := Classical.choose_spec (h (posP q m r)) (posP_lt hq hr)
  have := posP_inj a hr b
  subst this
  exact e
theorem pord_ex {g T : Nat → Option Nat} {sz K : Nat} {c q : Nat → Nat} (hP : Ps g sz c K) (hq : ∀ j, j < sz → q j < 11) : ∃ c', Ps (cpy (pord q c T sz) g sz) sz c' K ∧ ∀ i, i < sz → c' (posP q sz i) = c i := by
  obtain ⟨c', hc⟩ := pass_pi (π := c) hq
  refine ⟨c', fun j hj => ?_, hc⟩
  obtain ⟨i, a, b, e⟩ := stk_at c (posP q sz) T sz j (posP_onto hq hj)
  rw [cpy_lt hj, ← b, hc i a]
  exact ⟨by rw [b]; exact e, (hP i a).2⟩
theorem znB_iff {s : Nat → Nat → Nat} {col : Nat} {c : Nat → Nat} : ∀ m i, znB s col c i m = true ↔ ∃ j, i ≤ j ∧ j < i + m ∧ 0 < zn (s (c j) col) := by
  intro m
  induction m with
  | zero => intro i; exact ⟨fun z => (by cases z), fun ⟨j, a, b, _⟩ => absurd b (by omega)⟩
  | succ m ih =>
    intro i
    unfold znB
    by_cases h : 0 < zn (s (c i) col)
    · rw [if_pos h]; exact ⟨fun _ => ⟨i, Nat.le_refl _, by omega, h⟩, fun _ => rfl⟩
    · rw [if_neg h, ih (i + 1)]
      refine ⟨fun ⟨j, a, b, d⟩ => ⟨j, by omega, by omega, d⟩, fun ⟨j, a, b, d⟩ => ⟨j, ?_, by omega, d⟩⟩
      by_cases e : j = i
      · subst e; exact absurd d h
      · omega
theorem znB_perm {s : Nat → Nat → Nat} {col sz : Nat} {c c0 π k : Nat → Nat} (h : enu k sz π) (hc : ∀ r, r < sz → c r = c0 (π r)) : znB s col c 0 sz = znB s col c0 0 sz := by
  have : znB s col c 0 sz = true ↔ znB s col c0 0 sz = true := by
    rw [znB_iff, znB_iff]
    refine ⟨fun ⟨j, _, b, d⟩ => ⟨π j, Nat.zero_le _, by have := h.1 j (by omega); omega, by rw [← hc j (by omega)]; exact d⟩, fun ⟨j, _, b, d⟩ => ?_⟩
    obtain ⟨r, hr, e⟩ := enu_onto h (show j < sz by omega)
    exact ⟨r, Nat.zero_le _, by omega, by rw [hc r hr, e]; exact d⟩
  cases h1 : znB s col c 0 sz <;> cases h2 : znB s col c0 0 sz <;> simp_all
/-- a column's passes, and what they make of the key -/
theorem key_dp {t : Nat → Nat} {col m : Nat} (hz : zn (t col) = 0) : dp (t col) * 64 ^ m + keyF t (col + 1) m = keyF t col (m + 1) := by
  show _ = rk (t col) * 64 ^ m + keyF t (col + 1) m
  unfold rk
  rw [hz, Nat.zero_mul, Nat.zero_add]
theorem key_zn {t : Nat → Nat} {col m : Nat} : zn (t col) * (11 * 64 ^ m) + (dp (t col) * 64 ^ m + keyF t (col + 1) m) = keyF t col (m + 1) := by
  show _ = rk (t col) * 64 ^ m + keyF t (col + 1) m
  unfold rk
  rw [Nat.add_mul, ← Nat.mul_assoc, Nat.add_assoc]
theorem key_lt2 {t : Nat → Nat} (ht : ∀ j, j < 16 → sg (t j)) {col m : Nat} (h : col + 1 + m ≤ 16) : dp (t col) * 64 ^ m + keyF t (col + 1) m < 11 * 64 ^ m := by
  have h1 := keyF_lt ht m (col + 1) h
  have h2 := Nat.mul_le_mul_right (64 ^ m) (show dp (t col) + 1 ≤ 11 from dp_lt (ht col (by omega)))
  rw [Nat.add_mul] at h2
  omega
/-- passes for the column k -/
def wpN (s : Nat → Nat → Nat) (c : Nat → Nat) (sz k : Nat) : Nat := if znB s k c 0 sz = true then 2 else 1
theorem a32 (x y : Int32) : x + y - x = y := by rw [Int32.add_comm, Int32.add_sub_cancel]
