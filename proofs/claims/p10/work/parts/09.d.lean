/-! rows told in order: which of the entries, by a key, those of one key as they come -/
def enP (k : Nat → Nat) (P : Nat → Prop) (N : Nat) (π : Nat → Nat) : Prop := (∀ a, a < N → P (π a)) ∧ (∀ a b, a < b → b < N → ltK k (π a) (π b)) ∧ ∀ i, P i → ∃ a, a < N ∧ π a = i
theorem ltK_ir {k : Nat → Nat} {i : Nat} (h : ltK k i i) : False := by unfold ltK at h; omega
theorem ltK_as {k : Nat → Nat} {i j : Nat} (h : ltK k i j) (h2 : ltK k j i) : False := by unfold ltK at h h2; omega
theorem enP_half {k : Nat → Nat} {P : Nat → Prop} {N M : Nat} {π ρ : Nat → Nat} (h1 : enP k P N π) (h2 : enP k P M ρ) : ∀ a, a < N → a < M ∧ π a = ρ a := by
  intro a
  induction a using Nat.strongRecOn with
  | _ a ih =>
    intro ha
    obtain ⟨b, hb, eb⟩ := h2.2.2 _ (h1.1 a ha)
    have hab : a ≤ b := by
      rcases Nat.lt_or_ge b a with z | z
      · obtain ⟨_, w⟩ := ih b z (by omega)
        have := h1.2.1 b a z ha
        rw [w, eb] at this
        exact (ltK_ir this).elim
      · exact z
    have haM : a < M := by omega
    refine ⟨haM, ?_⟩
    obtain ⟨c, hc, ec⟩ := h1.2.2 _ (h2.1 a haM)
    have hac : a ≤ c := by
      rcases Nat.lt_or_ge c a with z | z
      · obtain ⟨_, w⟩ := ih c z (by omega)
        have := h2.2.1 c a z haM
        rw [← w, ec] at this
        exact (ltK_ir this).elim
      · exact z
    by_cases e1 : b = a
    · subst e1; exact eb.symm
    · by_cases e2 : c = a
      · subst e2; exact ec
      · have q1 := h2.2.1 a b (by omega) hb
        have q2 := h1.2.1 a c (by omega) hc
        rw [eb] at q1
        rw [ec] at q2
        exact (ltK_as q1 q2).elim
theorem enP_uniq {k : Nat → Nat} {P : Nat → Prop} {N M : Nat} {π ρ : Nat → Nat} (h1 : enP k P N π) (h2 : enP k P M ρ) : N = M ∧ ∀ a, a < N → π a = ρ a := by
  have a1 := enP_half h1 h2
  have a2 := enP_half h2 h1
  refine ⟨?_, fun a ha => (a1 a ha).2⟩
  rcases Nat.lt_trichotomy N M with z | z | z
  · have := (a2 N z).1; omega
  · exact z
  · have := (a1 M z).1; omega
theorem enP_iff {k : Nat → Nat} {P Q : Nat → Prop} {N : Nat} {π : Nat → Nat} (h : enP k P N π) (e : ∀ i, P i ↔ Q i) : enP k Q N π := ⟨fun a ha => (e _).mp (h.1 a ha), h.2.1, fun i hi => h.2.2 i ((e i).mpr hi)⟩
theorem enP_enu {k π : Nat → Nat} {m : Nat} (h : enu k m π) : enP k (fun i => i < m) m π := ⟨h.1, h.2, fun _ hi => enu_onto h hi⟩
theorem enP_0 {k : Nat → Nat} {P : Nat → Prop} {π : Nat → Nat} (h : ∀ i, ¬ P i) : enP k P 0 π := ⟨fun a ha => absurd ha (Nat.not_lt_zero _), fun a b _ hb => absurd hb (Nat.not_lt_zero _), fun i hi => absurd hi (h i)⟩
theorem enP_key {k k' : Nat → Nat} {P : Nat → Prop} {N : Nat} {π : Nat → Nat} (h : enP k P N π) (e : ∀ i, P i → k i = k' i) : enP k' P N π := by
  refine ⟨h.1, fun a b hab hb => ?_, h.2.2⟩
  have := h.2.1 a b hab hb
  unfold ltK at this ⊢
  rw [← e _ (h.1 a (by omega)), ← e _ (h.1 b hb)]
  exact this
/-- one more, behind all -/
theorem enP_app {k : Nat → Nat} {P : Nat → Prop} {N e : Nat} {π : Nat → Nat} (h : enP k P N π) (he : ∀ x, P x → ltK k x e) : enP k (fun i => P i ∨ i = e) (N + 1) (va_up π N e) := by
  refine ⟨fun a ha => ?_, fun a b hab hb => ?_, fun i hi => ?_⟩
  · unfold va_up
    by_cases z : a = N
    · rw [if_pos z]; exact Or.inr rfl
    · rw [if_neg z]; exact Or.inl (h.1 a (by omega))
  · unfold va_up
    rw [if_neg (show a ≠ N by omega)]
    by_cases z : b = N
    · rw [if_pos z]; exact he _ (h.1 a (by omega))
    · rw [if_neg z]; exact h.2.1 a b hab (by omega)
  · rcases hi with hi | hi
    · obtain ⟨a, ha, ea⟩ := h.2.2 i hi
      refine ⟨a, by omega, ?_⟩
      unfold va_up
      rw [if_neg (show a ≠ N by omega)]; exact ea
    · refine ⟨N, by omega, ?_⟩
      unfold va_up
      rw [if_pos rfl]; exact hi.symm
/-- one more, at its place -/
def insR (r : Nat → Nat) (p x : Nat) : Nat → Nat := fun j => if j < p then r j else if j = p then x else r (j - 1)
theorem enP_le {k : Nat → Nat} {P : Nat → Prop} {N a b : Nat} {π : Nat → Nat} (h : enP k P N π) (hab : a ≤ b) (hb : b < N) : k (π a) ≤ k (π b) := by
  by_cases e : a = b
  · rw [e]; exact Nat.le_refl _
  · have := h.2.1 a b (by omega) hb
    unfold ltK at this
    omega
theorem enP_ins {k : Nat → Nat} {P : Nat → Prop} {N e p : Nat} {π : Nat → Nat} (h : enP k P N π) (hi : ∀ i, P i → i < e) (hp : p ≤ N) (h1 : p = 0 ∨ k (π (p - 1)) ≤ k e) (h2 : ∀ j, p ≤ j → j < N → k e < k (π j)) : enP k (fun i => P i ∨ i = e) (N + 1) (insR π p e) := by
  have lo : ∀ a, a < p → ltK k (π a) e := by
    intro a ha
    have q1 := enP_le h (show a ≤ p - 1 by omega) (by omega)
    have q2 := hi _ (h.1 a (by omega))
    unfold ltK
    rcases h1 with z | z
    · omega
    · omega
  have hi2 : ∀ a, p ≤ a → a < N → ltK k e (π a) := fun a h3 h4 => Or.inl (h2 a h3 h4)
  refine ⟨fun a ha => ?_, fun a b hab hb => ?_, fun i hi' => ?_⟩
  · unfold insR
    by_cases z : a < p
    · rw [if_pos z]; exact Or.inl (h.1 a (by omega))
    · rw [if_neg z]
      by_cases z2 : a = p
      · rw [if_pos z2]; exact Or.inr rfl
      · rw [if_neg z2]; exact Or.inl (h.1 (a - 1) (by omega))
  · unfold insR
    by_cases z : a < p
    · rw [if_pos z]
      by_cases y : b < p
      · rw [if_pos y]; exact h.2.1 a b hab (by omega)
      · rw [if_neg y]
        by_cases y2 : b = p
        · rw [if_pos y2]; exact lo a z
        · rw [if_neg y2]; exact h.2.1 a (b - 1) (by omega) (by omega)
    · rw [if_neg z, if_neg (show ¬ b < p by omega), if_neg (show ¬ b = p by omega)]
      by_cases z2 : a = p
      · rw [if_pos z2]; exact hi2 (b - 1) (by omega) (by omega)
      · rw [if_neg z2]; exact h.2.1 (a - 1) (b - 1) (by omega) (by omega)
  · rcases hi' with hi' | hi'
    · obtain ⟨a, ha, ea⟩ := h.2.2 i hi'
      by_cases z : a < p
      · refine ⟨a, by omega, ?_⟩
        unfold insR; rw [if_pos z]; exact ea
      · refine ⟨a + 1, by omega, ?_⟩
        unfold insR; rw [if_neg (by omega), if_neg (by omega)]; exact ea
    · refine ⟨p, by omega, ?_⟩
      unfold insR; rw [if_neg (by omega), if_pos rfl]; exact hi'.symm
/-! two decks, one behind the other -/
def ent (c co : Nat → Nat) (sz : Nat) (x : Nat) : Nat := if x < sz then c x else co (x - sz)
theorem ent_l {c co : Nat → Nat} {sz x : Nat} (h : x < sz) : ent c co sz x = c x := if_pos h
theorem ent_r {c co : Nat → Nat} {sz x : Nat} : ent c co sz (sz + x) = co x := by
  unfold ent; rw [if_neg (by omega)]; congr 1; omega
theorem cmpC_le {s : Nat → Nat → Nat} {fr to x y : Nat} (hx : ∀ j, j < 16 → sg (s x j)) (hy : ∀ j, j < 16 → sg (s y j)) (hf : fr ≤ to) (ht : to < 16) : cmpC s fr to x y ≤ 0 ↔ keyC s fr to x ≤ keyC s fr to y := by
  have w := cmpC_key hx hy hf ht
  have e0 : (0 : Int32).toInt = 0 := rfl
  have e1 : (nI 0).toInt = 0 := rfl
  rw [mk_lt, mk_eq, e0, e1] at w
  rw [mk_le, e0]
  constructor
  · intro z
    by_cases q : (cmpC s fr to x y).toInt = 0
    · exact Nat.le_of_eq (w.2.mp q)
    · exact Nat.le_of_lt (w.1.mp (by omega))
  · intro z
    rcases Nat.lt_or_eq_of_le z with q | q
    · have := w.1.mpr q; omega
    · have := w.2.mpr q; omega
theorem srt_le {s : Nat → Nat → Nat} {fr to sz : Nat} {c : Nat → Nat} (hf : fr ≤ to) (ht : to < 16) (hs : ∀ j, j < sz → ∀ k, k < 16 → sg (s (c j) k)) (h : srtB s fr to c 1 (sz - 1) = true) {a b : Nat} (hab : a ≤ b) (hb : b < sz) : keyC s fr to (c a) ≤ keyC s fr to (c b) := enP_le (k := fun i => keyC s fr to (c i)) (π := fun i => i) (enP_enu (srtB_enu hf ht hs h)) hab hb
/-- the class's merging tells both decks in order -/
theorem mgT_enP {s : Nat → Nat → Nat} {fr to sz so : Nat} {c co : Nat → Nat} (hf : fr ≤ to) (ht : to < 16) (hs : ∀ j, j < sz → ∀ k, k < 16 → sg (s (c j) k)) (hso : ∀ j, j < so → ∀ k, k < 16 → sg (s (co j) k)) (h1 : srtB s fr to c 1 (sz - 1) = true) (h2 : srtB s fr to co 1 (so - 1) = true) :
    ∀ k, k ≤ sz + so → ∃ i j cr π, mgT s fr to c co sz so k = (i, j, cr) ∧ i + j = k ∧ i ≤ sz ∧ j ≤ so ∧ (∀ a, a < i → ∀ b, j ≤ b → b < so → keyC s fr to (c a) ≤ keyC s fr to (co b)) ∧ (∀ b, b < j → ∀ a, i ≤ a → a < sz → keyC s fr to (co b) < keyC s fr to (c a)) ∧ (∀ a, a < k → cr a = ent c co sz (π a)) ∧ enP (fun x => keyC s fr to (ent c co sz x)) (fun x => x < i ∨ sz ≤ x ∧ x < sz + j) k π := by
  intro k
  induction k with
  | zero => intro _; exact ⟨0, 0, c, id, rfl, rfl, Nat.zero_le _, Nat.zero_le _, fun a ha => absurd ha (Nat.not_lt_zero _), fun b hb => absurd hb (Nat.not_lt_zero _), fun a ha => absurd ha (Nat.not_lt_zero _), enP_0 (fun i => by omega)⟩
  | succ k ih =>
    intro hk
    obtain ⟨i, j, cr, π, e, hij, hi, hj, i1, i2, hcr, hen⟩ := ih (by omega)
    have rowU : ∀ x y, y = ent c co sz x → ∀ a, a < k + 1 → va_up cr k y a = ent c co sz (va_up π k x a) := by
      intro x y hy a ha
      unfold va_up
      by_cases z : a = k
      · rw [if_pos z, if_pos z]; exact hy
      · rw [if_neg z, if_neg z]; exact hcr a (by omega)
    by_cases ho : ordK s fr to c co sz so i j ≤ 0
    · have hi' := ordK_le ho (by omega)
      have hle : ∀ b, j ≤ b → b < so → keyC s fr to (c i) ≤ keyC s fr to (co b) := by
        intro b hjb hb
        unfold ordK at ho
        rw [if_neg (by omega), if_neg (by omega)] at ho
        have := (cmpC_le (hs i hi') (hso j (by omega)) hf ht).mp ho
        exact Nat.le_trans this (srt_le hf ht hso h2 hjb hb)
      refine ⟨i + 1, j, _, va_up π k i, mgT_l e ho, by omega, by omega, hj, fun a ha b hjb hb => ?_, fun b hb a h3 h4 => i2 b hb a (by omega) h4, rowU i (c i) (ent_l hi').symm, enP_iff (enP_app hen (fun x hx => ?_)) (fun x => by omega)⟩
      · by_cases z : a = i
        · subst z; exact hle b hjb hb
        · exact i1 a (by omega) b hjb hb
      · show ltK (fun x => keyC s fr to (ent c co sz x)) x i
        unfold ltK
        show keyC s fr to (ent c co sz x) < keyC s fr to (ent c co sz i) ∨ keyC s fr to (ent c co sz x) = keyC s fr to (ent c co sz i) ∧ x < i
        rw [ent_l hi']
        rcases hx with hx | ⟨hx, hx2⟩
        · rw [ent_l (by omega)]
          have := srt_le hf ht hs h1 (show x ≤ i by omega) hi'
          omega
        · obtain ⟨b, rfl⟩ : ∃ b, x = sz + b := ⟨x - sz, by omega⟩
          rw [ent_r]
          exact Or.inl (i2 b (by omega) i (Nat.le_refl _) hi')
    · have hj' := ordK_gt ho
      have hlt : ∀ a, i ≤ a → a < sz → keyC s fr to (co j) < keyC s fr to (c a) := by
        intro a hia ha
        unfold ordK at ho
        rw [if_neg (by omega), if_neg (by omega)] at ho
        have w := cmpC_le (hs i (by omega)) (hso j hj') hf ht
        have : keyC s fr to (co j) < keyC s fr to (c i) := by
          rcases Nat.lt_or_ge (keyC s fr to (co j)) (keyC s fr to (c i)) with z | z
          · exact z
          · exact absurd (w.mpr z) ho
        exact Nat.lt_of_lt_of_le this (srt_le hf ht hs h1 hia ha)
      refine ⟨i, j + 1, _, va_up π k (sz + j), mgT_r e ho, by omega, hi, by omega, fun a ha b hjb hb => i1 a ha b (by omega) hb, fun b hb a h3 h4 => ?_, rowU (sz + j) (co j) ent_r.symm, enP_iff (enP_app hen (fun x hx => ?_)) (fun x => by omega)⟩
      · by_cases z : b = j
        · subst z; exact hlt a h3 h4
        · exact i2 b (by omega) a h3 h4
      · unfold ltK
        show keyC s fr to (ent c co sz x) < keyC s fr to (ent c co sz (sz + j)) ∨ keyC s fr to (ent c co sz x) = keyC s fr to (ent c co sz (sz + j)) ∧ x < sz + j
        rw [ent_r]
        rcases hx with hx | ⟨hx, hx2⟩
        · rw [ent_l (by omega)]
          have := i1 x hx j (Nat.le_refl _) hj'
          omega
        · obtain ⟨b, rfl⟩ : ∃ b, x = sz + b := ⟨x - sz, by omega⟩
          rw [ent_r]
          have := srt_le hf ht hso h2 (show b ≤ j by omega) hj'
          omega
/-- which of the deck's, and of the other's, find one like them -/
def slA (s : Nat → Nat → Nat) (fr to : Nat) (c co : Nat → Nat) (so x : Nat) : Prop := ∃ b, b < so ∧ keyC s fr to (co b) = keyC s fr to (c x)
def id0 : Nat → Nat := fun _ => 0
/-- the three rows of a matching that has come to i and j -/
def mtE (s : Nat → Nat → Nat) (fr to : Nat) (c co ci : Nat → Nat) (sz so si i j : Nat) (M : mtM) : Prop := ∃ π1 π2 π3 N3, enP id0 (fun x => x < i ∧ ¬ slA s fr to c co so x) M.1.1 π1 ∧ (∀ a, a < M.1.1 → M.1.2 a = c (π1 a)) ∧ enP id0 (fun x => x < j ∧ ¬ slA s fr to co c sz x) M.2.1.1 π2 ∧ (∀ a, a < M.2.1.1 → M.2.1.2 a = co (π2 a)) ∧ M.2.2.1 = si + N3 ∧ enP (fun x => keyC s fr to (ent c co sz x)) (fun x => x < i ∧ slA s fr to c co so x ∨ sz ≤ x ∧ x < sz + j ∧ slA s fr to co c sz (x - sz)) N3 π3 ∧ (∀ a, a < si → M.2.2.2 a = ci a) ∧ ∀ a, a < N3 → M.2.2.2 (si + a) = ent c co sz (π3 a)
theorem mtP_row {q : Nat × (Nat → Nat)} {x y : Nat} {r π : Nat → Nat} (h : ∀ a, a < q.1 → q.2 a = r (π a)) (e : y = r x) : ∀ a, a < (mtP q y).1 → (mtP q y).2 a = r (va_up π q.1 x a) := by
  intro a ha
  have ha' : a < q.1 + 1 := ha
  show va_up q.2 q.1 y a = _
  unfold va_up
  by_cases z : a = q.1
  · rw [if_pos z, if_pos z]; exact e
  · rw [if_neg z, if_neg z]; exact h a (by omega)
theorem mtF_enP {s : Nat → Nat → Nat} {fr to sz so si : Nat} {c co ci : Nat → Nat} (hf : fr ≤ to) (ht : to < 16) (hs : ∀ j, j < sz → ∀ k, k < 16 → sg (s (c j) k)) (hso : ∀ j, j < so → ∀ k, k < 16 → sg (s (co j) k)) (h1 : srtB s fr to c 1 (sz - 1) = true) (h2 : srtB s fr to co 1 (so - 1) = true) :
    ∀ m i j lt M, i + j + m = sz + so → i ≤ sz → j ≤ so → (∀ a, a < i → ∀ b, j ≤ b → b < so → keyC s fr to (c a) ≤ keyC s fr to (co b)) → (∀ b, b < j → ∀ a, i ≤ a → a < sz → keyC s fr to (co b) < keyC s fr to (c a)) → (∀ x, lt = some x → ∃ a, a < i ∧ x = c a) → (∀ a, a < i → slA s fr to c co so a → ∃ x, lt = some x ∧ keyC s fr to (c a) ≤ keyC s fr to x) → mtE s fr to c co ci sz so si i j M → mtE s fr to c co ci sz so si sz so (mtF s fr to c co sz so m i j lt M) := by
  have z00 : (0 : Int32) = nI 0 := rfl
  have e0 : (0 : Int32).toInt = 0 := rfl
  intro m
  induction m with
  | zero =>
    intro i j lt M hm hi hj i1 i2 i3 i4 hE
    have ei : i = sz := by omega
    have ej : j = so := by omega
    subst ei ej
    exact hE
  | succ m ih =>
    intro i j lt M hm hi hj i1 i2 i3 i4 hE
    obtain ⟨π1, π2, π3, N3, a1, a2, b1, b2, c0, c1, c2, c3⟩ := hE
    unfold mtF
    by_cases ho : (0 : Int32) < ordK s fr to c co sz so i j
    · rw [if_pos ho]
      have ho' : ¬ ordK s fr to c co sz so i j ≤ 0 := fun z => by rw [mk_le] at z; rw [mk_lt] at ho; omega
      have hj' := ordK_gt ho'
      have hlt : ∀ a, i ≤ a → a < sz → keyC s fr to (co j) < keyC s fr to (c a) := by
        intro a hia ha
        unfold ordK at ho'
        rw [if_neg (by omega), if_neg (by omega)] at ho'
        have w := cmpC_le (hs i (by omega)) (hso j hj') hf ht
        have : keyC s fr to (co j) < keyC s fr to (c i) := by
          rcases Nat.lt_or_ge (keyC s fr to (co j)) (keyC s fr to (c i)) with z | z
          · exact z
          · exact absurd (w.mpr z) ho'
        exact Nat.lt_of_lt_of_le this (srt_le hf ht hs h1 hia ha)
      have n1 : ∀ a, a < i → ∀ b, j + 1 ≤ b → b < so → keyC s fr to (c a) ≤ keyC s fr to (co b) := fun a ha b hjb hb => i1 a ha b (by omega) hb
      have n2 : ∀ b, b < j + 1 → ∀ a, i ≤ a → a < sz → keyC s fr to (co b) < keyC s fr to (c a) := fun b hb a h3 h4 => by
        by_cases z : b = j
        · subst z; exact hlt a h3 h4
        · exact i2 b (by omega) a h3 h4
      -- is the other's card like one of the deck's
      have self : slA s fr to co c sz j ↔ ∃ x, lt = some x ∧ keyC s fr to (co j) = keyC s fr to x := by
        constructor
        · rintro ⟨a, ha, ea⟩
          have hai : a < i := by
            rcases Nat.lt_or_ge a i with z | z
            · exact z
            · have := hlt a z ha; omega
          obtain ⟨x, hx, hxk⟩ := i4 a hai ⟨j, hj', ea.symm⟩
          obtain ⟨a', ha', ex⟩ := i3 x hx
          have := i1 a' ha' j (Nat.le_refl _) hj'
          rw [← ex] at this
          exact ⟨x, hx, by omega⟩
        · rintro ⟨x, hx, hxk⟩
          obtain ⟨a', ha', ex⟩ := i3 x hx
          exact ⟨a', by omega, by rw [← ex]; exact hxk.symm⟩
      have toO : ¬ slA s fr to co c sz j → mtE s fr to c co ci sz so si i (j + 1) (M.1, mtP M.2.1 (co j), M.2.2) := by
        intro hn
        refine ⟨π1, va_up π2 M.2.1.1 j, π3, N3, a1, a2, enP_iff (enP_app b1 (fun x hx => Or.inr ⟨rfl, hx.1⟩)) (fun x => ?_), mtP_row b2 rfl, c0, enP_iff c1 (fun x => ?_), c2, c3⟩
        · constructor
          · rintro (z | rfl)
            · exact ⟨by omega, z.2⟩
            · exact ⟨by omega, hn⟩
          · rintro ⟨z1, z2⟩
            by_cases e : x = j
            · exact Or.inr e
            · exact Or.inl ⟨by omega, z2⟩
        · constructor
          · rintro (z | z)
            · exact Or.inl z
            · exact Or.inr ⟨z.1, by omega, z.2.2⟩
          · rintro (z | ⟨z1, z2, z3⟩)
            · exact Or.inl z
            · by_cases e : x = sz + j
              · subst e
                rw [show sz + j - sz = j by omega] at z3
                exact absurd z3 hn
              · exact Or.inr ⟨z1, by omega, z3⟩
      have toI : slA s fr to co c sz j → mtE s fr to c co ci sz so si i (j + 1) (M.1, M.2.1, mtP M.2.2 (co j)) := by
        intro hn
        refine ⟨π1, π2, va_up π3 N3 (sz + j), N3 + 1, a1, a2, enP_iff b1 (fun x => ?_), b2, by show M.2.2.1 + 1 = _; omega, enP_iff (enP_app c1 (fun x hx => ?_)) (fun x => ?_), fun a ha => ?_, fun a ha => ?_⟩
        · constructor
          · rintro ⟨z1, z2⟩; exact ⟨by omega, z2⟩
          · rintro ⟨z1, z2⟩
            by_cases e : x = j
            · subst e; exact absurd hn z2
            · exact ⟨by omega, z2⟩
        · unfold ltK
          show keyC s fr to (ent c co sz x) < keyC s fr to (ent c co sz (sz + j)) ∨ keyC s fr to (ent c co sz x) = keyC s fr to (ent c co sz (sz + j)) ∧ x < sz + j
          rw [ent_r]
          rcases hx with ⟨hx, _⟩ | ⟨hx, hx2, _⟩
          · rw [ent_l (by omega)]
            have := i1 x hx j (Nat.le_refl _) hj'
            omega
          · obtain ⟨b, rfl⟩ : ∃ b, x = sz + b := ⟨x - sz, by omega⟩
            rw [ent_r]
            have := srt_le hf ht hso h2 (show b ≤ j by omega) hj'
            omega
        · constructor
          · rintro ((z | z) | rfl)
            · exact Or.inl z
            · exact Or.inr ⟨z.1, by omega, z.2.2⟩
            · exact Or.inr ⟨by omega, by omega, by rw [show sz + j - sz = j by omega]; exact hn⟩
          · rintro (z | ⟨z1, z2, z3⟩)
            · exact Or.inl (Or.inl z)
            · by_cases e : x = sz + j
              · exact Or.inr e
              · exact Or.inl (Or.inr ⟨z1, by omega, z3⟩)
        · show va_up M.2.2.2 M.2.2.1 (co j) a = _
          rw [va_up_ne _ _ (by omega)]; exact c2 a ha
        · show va_up M.2.2.2 M.2.2.1 (co j) (si + a) = _
          by_cases e : a = N3
          · subst e; rw [c0, va_up_self, va_up_self, ent_r]
          · rw [va_up_ne _ _ (by omega), va_up_ne _ _ e]; exact c3 a (by omega)
      cases lt with
      | none =>
        refine ih i (j + 1) none _ (by omega) hi (by omega) n1 n2 i3 i4 (toO (fun q => ?_))
        obtain ⟨x, hx, _⟩ := self.mp q
        cases hx
      | some x =>
        obtain ⟨a', ha', ex⟩ := i3 x rfl
        have w := (cmpC_key (hso j hj') (by rw [ex]; exact hs a' (by omega)) hf ht (x := co j) (y := x)).2
        simp only []
        by_cases q : cmpC s fr to (co j) x = 0
        · rw [if_pos q]
          exact ih i (j + 1) (some x) _ (by omega) hi (by omega) n1 n2 i3 i4 (toI (self.mpr ⟨x, rfl, w.mp q⟩))
        · rw [if_neg q]
          refine ih i (j + 1) (some x) _ (by omega) hi (by omega) n1 n2 i3 i4 (toO (fun q2 => q ?_))
          obtain ⟨x', hx', e'⟩ := self.mp q2
          cases hx'
          exact w.mpr e'
    · rw [if_neg ho]
      have ho' : ordK s fr to c co sz so i j ≤ 0 := by rw [mk_le]; rw [mk_lt] at ho; omega
      have hi' := ordK_le ho' (by omega)
      have hle : ∀ b, j ≤ b → b < so → keyC s fr to (c i) ≤ keyC s fr to (co b) := by
        intro b hjb hb
        unfold ordK at ho'
        rw [if_neg (by omega), if_neg (by omega)] at ho'
        have := (cmpC_le (hs i hi') (hso j (by omega)) hf ht).mp ho'
        exact Nat.le_trans this (srt_le hf ht hso h2 hjb hb)
      have n1 : ∀ a, a < i + 1 → ∀ b, j ≤ b → b < so → keyC s fr to (c a) ≤ keyC s fr to (co b) := fun a ha b hjb hb => by
        by_cases z : a = i
        · subst z; exact hle b hjb hb
        · exact i1 a (by omega) b hjb hb
      have n2 : ∀ b, b < j → ∀ a, i + 1 ≤ a → a < sz → keyC s fr to (co b) < keyC s fr to (c a) := fun b hb a h3 h4 => i2 b hb a (by omega) h4
      have self : slA s fr to c co so i ↔ ordK s fr to c co sz so i j = 0 := by
        constructor
        · rintro ⟨b, hb, eb⟩
          have hjb : j ≤ b := by
            rcases Nat.lt_or_ge b j with z | z
            · have := i2 b z i (Nat.le_refl _) hi'; omega
            · exact z
          have hjs : j < so := by omega
          unfold ordK
          rw [if_neg (by omega), if_neg (by omega)]
          refine (cmpC_key (hs i hi') (hso j hjs) hf ht).2.mpr ?_
          have q1 := hle j (Nat.le_refl _) hjs
          have q2 := srt_le hf ht hso h2 hjb hb
          omega
        · intro z
          unfold ordK at z
          by_cases q1 : so ≤ j
          · rw [if_pos q1] at z; exact absurd z (by decide)
          · rw [if_neg q1, if_neg (by omega)] at z
            exact ⟨j, by omega, ((cmpC_key (hs i hi') (hso j (by omega)) hf ht).2.mp z).symm⟩
      have low : ∀ x, (x < i ∧ slA s fr to c co so x ∨ sz ≤ x ∧ x < sz + j ∧ slA s fr to co c sz (x - sz)) → ltK (fun x => keyC s fr to (ent c co sz x)) x i := by
        intro x hx
        unfold ltK
        show keyC s fr to (ent c co sz x) < keyC s fr to (ent c co sz i) ∨ keyC s fr to (ent c co sz x) = keyC s fr to (ent c co sz i) ∧ x < i
        rw [ent_l hi']
        rcases hx with ⟨hx, _⟩ | ⟨hx, hx2, _⟩
        · rw [ent_l (by omega)]
          have := srt_le hf ht hs h1 (show x ≤ i by omega) hi'
          omega
        · obtain ⟨b, rfl⟩ : ∃ b, x = sz + b := ⟨x - sz, by omega⟩
          rw [ent_r]
          exact Or.inl (i2 b (by omega) i (Nat.le_refl _) hi')
      by_cases h0 : ordK s fr to c co sz so i j = 0
      · rw [if_pos h0]
        have hn := self.mpr h0
        refine ih (i + 1) j (some (c i)) _ (by omega) (by omega) hj n1 n2 (fun x hx => ⟨i, by omega, by cases hx; rfl⟩) (fun a ha _ => ⟨c i, rfl, srt_le hf ht hs h1 (by omega) hi'⟩) ?_
        refine ⟨π1, π2, va_up π3 N3 i, N3 + 1, enP_iff a1 (fun x => ?_), a2, b1, b2, by show M.2.2.1 + 1 = _; omega, enP_iff (enP_app c1 low) (fun x => ?_), fun a ha => ?_, fun a ha => ?_⟩
        · constructor
          · rintro ⟨z1, z2⟩; exact ⟨by omega, z2⟩
          · rintro ⟨z1, z2⟩
            by_cases e : x = i
            · subst e; exact absurd hn z2
            · exact ⟨by omega, z2⟩
        · constructor
          · rintro ((z | z) | rfl)
            · exact Or.inl ⟨by omega, z.2⟩
            · exact Or.inr z
            · exact Or.inl ⟨by omega, hn⟩
          · rintro (⟨z1, z2⟩ | z)
            · by_cases e : x = i
              · exact Or.inr e
              · exact Or.inl (Or.inl ⟨by omega, z2⟩)
            · exact Or.inl (Or.inr z)
        · show va_up M.2.2.2 M.2.2.1 (c i) a = _
          rw [va_up_ne _ _ (by omega)]; exact c2 a ha
        · show va_up M.2.2.2 M.2.2.1 (c i) (si + a) = _
          by_cases e : a = N3
          · subst e; rw [c0, va_up_self, va_up_self, ent_l hi']
          · rw [va_up_ne _ _ (by omega), va_up_ne _ _ e]; exact c3 a (by omega)
      · rw [if_neg h0]
        have hn : ¬ slA s fr to c co so i := fun z => h0 (self.mp z)
        refine ih (i + 1) j lt _ (by omega) (by omega) hj n1 n2 (fun x hx => by
          obtain ⟨a, ha, e⟩ := i3 x hx
          exact ⟨a, by omega, e⟩) (fun a ha hsl => by
          by_cases e : a = i
          · subst e; exact absurd hsl hn
          · exact i4 a (by omega) hsl) ?_
        refine ⟨va_up π1 M.1.1 i, π2, π3, N3, enP_iff (enP_app a1 (fun x hx => Or.inr ⟨rfl, hx.1⟩)) (fun x => ?_), mtP_row a2 rfl, b1, b2, c0, enP_iff c1 (fun x => ?_), c2, c3⟩
        · constructor
          · rintro (z | rfl)
            · exact ⟨by omega, z.2⟩
            · exact ⟨by omega, hn⟩
          · rintro ⟨z1, z2⟩
            by_cases e : x = i
            · exact Or.inr e
            · exact Or.inl ⟨by omega, z2⟩
        · constructor
          · rintro (z | z)
            · exact Or.inl ⟨by omega, z.2⟩
            · exact Or.inr z
          · rintro (⟨z1, z2⟩ | z)
            · by_cases e : x = i
              · subst e; exact absurd z2 hn
              · exact Or.inl ⟨by omega, z2⟩
            · exact Or.inr z
theorem mtF_sum {s : Nat → Nat → Nat} {fr to sz so : Nat} {c co : Nat → Nat} : ∀ m i j lt M, (mtF s fr to c co sz so m i j lt M).1.1 + (mtF s fr to c co sz so m i j lt M).2.1.1 + (mtF s fr to c co sz so m i j lt M).2.2.1 = M.1.1 + M.2.1.1 + M.2.2.1 + m := by
  intro m
  induction m with
  | zero => intro i j lt M; rfl
  | succ m ih =>
    intro i j lt M
    unfold mtF
    by_cases ho : (0 : Int32) < ordK s fr to c co sz so i j
    · rw [if_pos ho]
      cases lt with
      | none =>
        simp only []
        rw [ih]
        show M.1.1 + (M.2.1.1 + 1) + M.2.2.1 + m = _
        omega
      | some x =>
        simp only []
        by_cases q : cmpC s fr to (co j) x = 0
        · rw [if_pos q, ih]
          show M.1.1 + M.2.1.1 + (M.2.2.1 + 1) + m = _
          omega
        · rw [if_neg q, ih]
          show M.1.1 + (M.2.1.1 + 1) + M.2.2.1 + m = _
          omega
    · rw [if_neg ho]
      by_cases h0 : ordK s fr to c co sz so i j = 0
      · rw [if_pos h0, ih]
        show M.1.1 + M.2.1.1 + (M.2.2.1 + 1) + m = _
        omega
      · rw [if_neg h0, ih]
        show M.1.1 + 1 + M.2.1.1 + M.2.2.1 + m = _
        omega
/-- the three rows of a whole matching -/
theorem mtF_all {s : Nat → Nat → Nat} {fr to sz so si : Nat} {c co ci c1 c2 : Nat → Nat} (hf : fr ≤ to) (ht : to < 16) (hs : ∀ j, j < sz → ∀ k, k < 16 → sg (s (c j) k)) (hso : ∀ j, j < so → ∀ k, k < 16 → sg (s (co j) k)) (h1 : srtB s fr to c 1 (sz - 1) = true) (h2 : srtB s fr to co 1 (so - 1) = true) : mtE s fr to c co ci sz so si sz so (mtF s fr to c co sz so (sz + so) 0 0 none ((0, c1), (0, c2), (si, ci))) := by
  refine mtF_enP hf ht hs hso h1 h2 (sz + so) 0 0 none _ (by omega) (Nat.zero_le _) (Nat.zero_le _) (fun a ha => absurd ha (Nat.not_lt_zero _)) (fun b hb => absurd hb (Nat.not_lt_zero _)) (fun x hx => by cases hx) (fun a ha => absurd ha (Nat.not_lt_zero _)) ?_
  exact ⟨id, id, id, 0, enP_0 (fun i q => by omega), fun a ha => absurd ha (Nat.not_lt_zero _), enP_0 (fun i q => by omega), fun a ha => absurd ha (Nat.not_lt_zero _), rfl, enP_0 (fun i q => by omega), fun a _ => rfl, fun a ha => absurd ha (Nat.not_lt_zero _)⟩
theorem mt_cnt {s : Nat → Nat → Nat} {fr to sz so : Nat} {c co : Nat → Nat} (hf : fr ≤ to) (ht : to < 16) (hs : ∀ j, j < sz → ∀ k, k < 16 → sg (s (c j) k)) (hso : ∀ j, j < so → ∀ k, k < 16 → sg (s (co j) k)) (h1 : srtB s fr to c 1 (sz - 1) = true) (h2 : srtB s fr to co 1 (so - 1) = true) {N1 N2 N3 : Nat} {ρ1 ρ2 ρ3 : Nat → Nat} (r1 : enP id0 (fun x => x < sz ∧ ¬ slA s fr to c co so x) N1 ρ1) (r2 : enP id0 (fun x => x < so ∧ ¬ slA s fr to co c sz x) N2 ρ2) (r3 : enP (fun x => keyC s fr to (ent c co sz x)) (fun x => x < sz ∧ slA s fr to c co so x ∨ sz ≤ x ∧ x < sz + so ∧ slA s fr to co c sz (x - sz)) N3 ρ3) : N1 + N2 + N3 = sz + so := by
  obtain ⟨π1, π2, π3, M3, a1, a2, b1, b2, c0, c1, c2, c3⟩ := mtF_all (si := 0) (ci := c) (c1 := c) (c2 := c) hf ht hs hso h1 h2
  have hsum := mtF_sum (s := s) (fr := fr) (to := to) (sz := sz) (so := so) (c := c) (co := co) (sz + so) 0 0 none ((0, c), (0, c), (0, c))
  have e1 := (enP_uniq r1 a1).1
  have e2 := (enP_uniq r2 b1).1
  have e3 := (enP_uniq r3 c1).1
  have hsum' : _ = 0 + 0 + 0 + (sz + so) := hsum
  rw [c0, ← e1, ← e2, ← e3] at hsum'
  omega
