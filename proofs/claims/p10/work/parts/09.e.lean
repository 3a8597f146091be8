/-! the tabulator's pure side: what both programs do, step by step -/
theorem arN_sg {F T t : Nat → Nat} {L : Nat → Nat} {w p : Nat} (hok : BdOk w F T L) (ht : ∀ j, j < 16 → sg (t j)) : arN F T t p w = -1 ∨ arN F T t p w = -2 ∨ ∃ c, sg c ∧ arN F T t p w = nI c := arN_v (fun k hk h32 => sgF_ok (hok.2.1 k hk).1 h32 ht) w (Nat.le_refl _)
/-- what a counter's wheel shows -/
def whN (v k : Nat) : Nat := if v / 10 ^ k = 0 ∧ 0 < k then 32 else 48 + v / 10 ^ k % 10
theorem whN_sg (v k : Nat) : sg (whN v k) := by
  unfold whN sg
  by_cases h : v / 10 ^ k = 0 ∧ 0 < k
  · rw [if_pos h]; exact Or.inl rfl
  · rw [if_neg h]; omega
theorem whl_n {v k : Nat} (hv : v < 2 ^ 31) (hk : k < 6) : whl (nI v) k = nI (whN v k) := by
  have hp := pw10 k (by omega)
  have hpos : 0 < 10 ^ k := Nat.pos_of_ne_zero (by simp)
  have hd : v / 10 ^ k < 2 ^ 31 := Nat.lt_of_le_of_lt (Nat.div_le_self _ _) hv
  have e0 : nI (v / 10 ^ k) = 0 ↔ v / 10 ^ k = 0 := nI_eq hd (by decide)
  unfold whl whN
  rw [pwN k (by omega), pk_div hv hpos hp]
  by_cases h : v / 10 ^ k = 0 ∧ 0 < k
  · rw [if_pos h, if_pos ⟨e0.mpr h.1, h.2⟩]
  · rw [if_neg h, if_neg (fun z => h ⟨e0.mp z.1, z.2⟩), pk_rem hd (by decide) (by decide), nI_add]
/-- what comes of a level's totals to a jack -/
def arX (F T L cn : Nat → Nat) (lv to : Nat) : Nat → Int32
  | 0 => -1
  | k + 1 => if 32 ≤ F k ∧ T k = to ∧ L ((F k - 32) / 6) = lv then arS (arX F T L cn lv to k) (nI (whN (cn ((F k - 32) / 6)) ((F k - 32) % 6))) else arX F T L cn lv to k
theorem arX_v {F T L cn : Nat → Nat} {lv to : Nat} : ∀ k, arX F T L cn lv to k = -1 ∨ arX F T L cn lv to k = -2 ∨ ∃ c, sg c ∧ arX F T L cn lv to k = nI c := by
  intro k
  induction k with
  | zero => exact Or.inl rfl
  | succ k q =>
    unfold arX
    by_cases h : 32 ≤ F k ∧ T k = to ∧ L ((F k - 32) / 6) = lv
    · have g := whN_sg (cn ((F k - 32) / 6)) ((F k - 32) % 6)
      rw [if_pos h, arS_n g]
      by_cases e : nI (whN (cn ((F k - 32) / 6)) ((F k - 32) % 6)) = arX F T L cn lv to k
      · rw [if_pos e]; exact q
      · rw [if_neg e]
        by_cases e2 : arX F T L cn lv to k = -1
        · rw [if_pos e2]; exact Or.inr (Or.inr ⟨_, g, rfl⟩)
        · rw [if_neg e2]; exact Or.inr (Or.inl rfl)
    · rw [if_neg h]; exact q
/-- only the counters of the level count -/
theorem arX_c {F T L cn cm : Nat → Nat} {lv to w : Nat} (hF : ∀ k, k < w → F k < 56) (h : ∀ c, c < 4 → L c = lv → cn c = cm c) : ∀ k, k ≤ w → arX F T L cn lv to k = arX F T L cm lv to k := by
  intro k
  induction k with
  | zero => intro _; rfl
  | succ k ih =>
    intro hk
    have q := hF k (by omega)
    unfold arX
    rw [ih (by omega)]
    by_cases e : 32 ≤ F k ∧ T k = to ∧ L ((F k - 32) / 6) = lv
    · rw [if_pos e, if_pos e, h _ (by omega) e.2.2]
    · rw [if_neg e, if_neg e]
/-- the same of the totals of a level -/
theorem brX_ar {F T L cn : Nat → Nat} {cg : Nat → Int32} {lv q N w : Nat} {z : (Nat → Int32) × Int32} (hs : ∀ k, k < w → 32 ≤ F k → whl (cg ((F k - 32) / 6)) ((F k - 32) % 6) = nI (whN (cn ((F k - 32) / 6)) ((F k - 32) % 6))) (z1 : ∀ p, p < N → z.1 p = -1) (z2 : z.2 = nI 0) :
    ∀ k, k ≤ w → (∀ p, p < N → (arX F T L cn lv (q + p) k = -2 ∧ (brX F T L cg lv q N k z).1 p ≠ -1) ∨ (arX F T L cn lv (q + p) k ≠ -2 ∧ (brX F T L cg lv q N k z).1 p = arX F T L cn lv (q + p) k)) ∧ (((brX F T L cg lv q N k z).2 = nI 0 ∧ ∀ p, p < N → arX F T L cn lv (q + p) k ≠ -2) ∨ ((brX F T L cg lv q N k z).2 = nI 1 ∧ ∃ p, p < N ∧ arX F T L cn lv (q + p) k = -2)) := by
  intro k
  induction k with
  | zero =>
    intro _
    refine ⟨fun p hp => Or.inr ⟨by show (-1 : Int32) ≠ -2; decide, z1 p hp⟩, Or.inl ⟨z2, fun p hp => by show (-1 : Int32) ≠ -2; decide⟩⟩
  | succ k ih =>
    intro hk
    obtain ⟨i1, i2⟩ := ih (by omega)
    obtain ⟨y, hy⟩ : ∃ y, y = brX F T L cg lv q N k z := ⟨_, rfl⟩
    rw [← hy] at i1 i2
    have eb : brX F T L cg lv q N (k + 1) z = if 32 ≤ F k ∧ q ≤ T k ∧ T k < q + N ∧ L ((F k - 32) / 6) = lv then (upd y.1 (T k - q) (whl (cg ((F k - 32) / 6)) ((F k - 32) % 6)), if y.1 (T k - q) = -1 ∨ y.1 (T k - q) = whl (cg ((F k - 32) / 6)) ((F k - 32) % 6) then y.2 else nI 1) else y := by rw [hy]; rfl
    have ea : ∀ p, arX F T L cn lv (q + p) (k + 1) = if 32 ≤ F k ∧ T k = q + p ∧ L ((F k - 32) / 6) = lv then arS (arX F T L cn lv (q + p) k) (nI (whN (cn ((F k - 32) / 6)) ((F k - 32) % 6))) else arX F T L cn lv (q + p) k := fun p => rfl
    rw [eb]
    by_cases h : 32 ≤ F k ∧ q ≤ T k ∧ T k < q + N ∧ L ((F k - 32) / 6) = lv
    · rw [if_pos h]
      rw [hs k (by omega) h.1]
      have g := whN_sg (cn ((F k - 32) / 6)) ((F k - 32) % 6)
      obtain ⟨g1, g2, g3⟩ := nI_nn g
      have hp0 : T k - q < N := by omega
      have other : ∀ p, p ≠ T k - q → arX F T L cn lv (q + p) (k + 1) = arX F T L cn lv (q + p) k := fun p hp => by rw [ea, if_neg (by omega)]
      have here : arX F T L cn lv (q + (T k - q)) (k + 1) = if nI (whN (cn ((F k - 32) / 6)) ((F k - 32) % 6)) = arX F T L cn lv (q + (T k - q)) k then arX F T L cn lv (q + (T k - q)) k else if arX F T L cn lv (q + (T k - q)) k = -1 then nI (whN (cn ((F k - 32) / 6)) ((F k - 32) % 6)) else -2 := by rw [ea, if_pos ⟨h.1, by omega, h.2.2.2⟩, arS_n g]
      have keep : ∀ p, p < N → p ≠ T k - q → (arX F T L cn lv (q + p) (k + 1) = -2 ∧ upd y.1 (T k - q) (nI (whN (cn ((F k - 32) / 6)) ((F k - 32) % 6))) p ≠ -1) ∨ (arX F T L cn lv (q + p) (k + 1) ≠ -2 ∧ upd y.1 (T k - q) (nI (whN (cn ((F k - 32) / 6)) ((F k - 32) % 6))) p = arX F T L cn lv (q + p) (k + 1)) := fun p hp e => by
        rw [other p e, pk_un e]; exact i1 p hp
      rcases i1 (T k - q) hp0 with ⟨b1, b2⟩ | ⟨b1, b2⟩
      · have e' : arX F T L cn lv (q + (T k - q)) (k + 1) = -2 := by
          rw [here, b1, if_neg g3, if_neg (by decide)]
        refine ⟨fun p hp => ?_, ?_⟩
        · by_cases e : p = T k - q
          · subst e; exact Or.inl ⟨e', by show upd y.1 (T k - q) (nI (whN (cn ((F k - 32) / 6)) ((F k - 32) % 6))) (T k - q) ≠ -1; rw [pk_us]; exact g2⟩
          · exact keep p hp e
        · have y2 : y.2 = nI 1 := by
            rcases i2 with ⟨_, a2⟩ | ⟨a1, _⟩
            · exact absurd b1 (a2 _ hp0)
            · exact a1
          refine Or.inr ⟨?_, _, hp0, e'⟩
          show (if y.1 (T k - q) = -1 ∨ y.1 (T k - q) = nI (whN (cn ((F k - 32) / 6)) ((F k - 32) % 6)) then y.2 else nI 1) = nI 1
          rw [y2]; exact ite_self _
      · by_cases c1 : nI (whN (cn ((F k - 32) / 6)) ((F k - 32) % 6)) = arX F T L cn lv (q + (T k - q)) k
        · have e' : arX F T L cn lv (q + (T k - q)) (k + 1) = arX F T L cn lv (q + (T k - q)) k := by rw [here, if_pos c1]
          refine ⟨fun p hp => ?_, ?_⟩
          · by_cases e : p = T k - q
            · subst e; exact Or.inr ⟨by rw [e']; exact b1, by show upd y.1 (T k - q) (nI (whN (cn ((F k - 32) / 6)) ((F k - 32) % 6))) (T k - q) = _; rw [pk_us, e']; exact c1⟩
            · exact keep p hp e
          · have ey : (if y.1 (T k - q) = -1 ∨ y.1 (T k - q) = nI (whN (cn ((F k - 32) / 6)) ((F k - 32) % 6)) then y.2 else nI 1) = y.2 := if_pos (Or.inr (by rw [b2]; exact c1.symm))
            show ((if y.1 (T k - q) = -1 ∨ y.1 (T k - q) = nI (whN (cn ((F k - 32) / 6)) ((F k - 32) % 6)) then y.2 else nI 1) = nI 0 ∧ _) ∨ ((if y.1 (T k - q) = -1 ∨ y.1 (T k - q) = nI (whN (cn ((F k - 32) / 6)) ((F k - 32) % 6)) then y.2 else nI 1) = nI 1 ∧ _)
            rw [ey]
            have same : ∀ p, arX F T L cn lv (q + p) (k + 1) = arX F T L cn lv (q + p) k := fun p => by
              by_cases e : p = T k - q
              · rw [e]; exact e'
              · exact other p e
            rcases i2 with ⟨a1, a2⟩ | ⟨a1, p, hp, a2⟩
            · exact Or.inl ⟨a1, fun p hp => by rw [same p]; exact a2 p hp⟩
            · exact Or.inr ⟨a1, p, hp, by rw [same p]; exact a2⟩
        · by_cases c2 : arX F T L cn lv (q + (T k - q)) k = -1
          · have e' : arX F T L cn lv (q + (T k - q)) (k + 1) = nI (whN (cn ((F k - 32) / 6)) ((F k - 32) % 6)) := by rw [here, if_neg c1, if_pos c2]
            refine ⟨fun p hp => ?_, ?_⟩
            · by_cases e : p = T k - q
              · subst e; exact Or.inr ⟨by rw [e']; exact g3, by show upd y.1 (T k - q) (nI (whN (cn ((F k - 32) / 6)) ((F k - 32) % 6))) (T k - q) = _; rw [pk_us, e']⟩
              · exact keep p hp e
            · have ey : (if y.1 (T k - q) = -1 ∨ y.1 (T k - q) = nI (whN (cn ((F k - 32) / 6)) ((F k - 32) % 6)) then y.2 else nI 1) = y.2 := if_pos (Or.inl (b2.trans c2))
              show ((if y.1 (T k - q) = -1 ∨ y.1 (T k - q) = nI (whN (cn ((F k - 32) / 6)) ((F k - 32) % 6)) then y.2 else nI 1) = nI 0 ∧ _) ∨ ((if y.1 (T k - q) = -1 ∨ y.1 (T k - q) = nI (whN (cn ((F k - 32) / 6)) ((F k - 32) % 6)) then y.2 else nI 1) = nI 1 ∧ _)
              rw [ey]
              rcases i2 with ⟨a1, a2⟩ | ⟨a1, p, hp, a2⟩
              · refine Or.inl ⟨a1, fun p hp => ?_⟩
                by_cases e : p = T k - q
                · rw [e, e']; exact g3
                · rw [other p e]; exact a2 p hp
              · refine Or.inr ⟨a1, p, hp, ?_⟩
                by_cases e : p = T k - q
                · subst e; exact absurd a2 b1
                · rw [other p e]; exact a2
          · have e' : arX F T L cn lv (q + (T k - q)) (k + 1) = -2 := by rw [here, if_neg c1, if_neg c2]
            refine ⟨fun p hp => ?_, ?_⟩
            · by_cases e : p = T k - q
              · subst e; exact Or.inl ⟨e', by show upd y.1 (T k - q) (nI (whN (cn ((F k - 32) / 6)) ((F k - 32) % 6))) (T k - q) ≠ -1; rw [pk_us]; exact g2⟩
              · exact keep p hp e
            · refine Or.inr ⟨?_, _, hp0, e'⟩
              show (if y.1 (T k - q) = -1 ∨ y.1 (T k - q) = nI (whN (cn ((F k - 32) / 6)) ((F k - 32) % 6)) then y.2 else nI 1) = nI 1
              rw [if_neg (fun z => ?_)]
              rcases z with z | z
              · exact c2 (b2.symm.trans z)
              · exact c1 (z.symm.trans b2)
    · rw [if_neg h]
      have same : ∀ p, p < N → arX F T L cn lv (q + p) (k + 1) = arX F T L cn lv (q + p) k := fun p hp => by rw [ea, if_neg (fun z => h ⟨z.1, by omega, by omega, z.2.2⟩)]
      refine ⟨fun p hp => by rw [same p hp]; exact i1 p hp, ?_⟩
      rcases i2 with ⟨a1, a2⟩ | ⟨a1, p, hp, a2⟩
      · exact Or.inl ⟨a1, fun p hp => by rw [same p hp]; exact a2 p hp⟩
      · exact Or.inr ⟨a1, p, hp, by rw [same p hp]; exact a2⟩
/-- do two signs that differ come to one of the print jacks -/
def clX (F T L cn : Nat → Nat) (lv w : Nat) : Nat → Bool
  | 0 => false
  | p + 1 => clX F T L cn lv w p || decide (arX F T L cn lv (32 + p) w = -2)
theorem clX_iff {F T L cn : Nat → Nat} {lv w : Nat} : ∀ N, clX F T L cn lv w N = true ↔ ∃ p, p < N ∧ arX F T L cn lv (32 + p) w = -2 := by
  intro N
  induction N with
  | zero => exact ⟨fun z => (by cases z), fun ⟨p, hp, _⟩ => absurd hp (Nat.not_lt_zero _)⟩
  | succ N ih =>
    unfold clX
    rw [Bool.or_eq_true, ih, decide_eq_true_eq]
    constructor
    · rintro (⟨p, hp, e⟩ | e)
      · exact ⟨p, by omega, e⟩
      · exact ⟨N, by omega, e⟩
    · rintro ⟨p, hp, e⟩
      by_cases h : p = N
      · subst h; exact Or.inr e
      · exact Or.inl ⟨p, by omega, e⟩
theorem clX_not {F T L cn : Nat → Nat} {lv w N p : Nat} (h : clX F T L cn lv w N = false) (hp : p < N) : arX F T L cn lv (32 + p) w ≠ -2 := fun e => by
  have := (clX_iff N).mpr ⟨p, hp, e⟩
  rw [h] at this; cases this
theorem clX_c {F T L cn cm : Nat → Nat} {lv w : Nat} (hF : ∀ k, k < w → F k < 56) (h : ∀ c, c < 4 → L c = lv → cn c = cm c) : ∀ N, clX F T L cn lv w N = clX F T L cm lv w N := by
  intro N
  induction N with
  | zero => rfl
  | succ N ih =>
    unfold clX
    rw [ih, arX_c hF h w (Nat.le_refl _)]
theorem clN_not {F T t : Nat → Nat} {q w N p : Nat} (h : clB F T t q w N = false) (hp : p < N) : arN F T t (q + p) w ≠ -2 := fun e => by
  have := (clB_iff N).mpr ⟨p, hp, e⟩
  rw [h] at this; cases this
/-- the print jacks behind a level's totals -/
theorem brX_24 {F T L cn : Nat → Nat} {lv w : Nat} {g : Nat → Int32} (hok : BdOk w F T L) (hc : ∀ c, c < 4 → cn c < 1000000) : (brX F T L (fun j => nI (cn j)) lv 32 24 w (cpy (fun _ => -1) g 24, nI 0)).2 = mk_b (clX F T L cn lv w 24 = true) ∧ (clX F T L cn lv w 24 = false → ∀ p, p < 24 → (brX F T L (fun j => nI (cn j)) lv 32 24 w (cpy (fun _ => -1) g 24, nI 0)).1 p = arX F T L cn lv (32 + p) w) := by
  have h := brX_ar (F := F) (T := T) (L := L) (cn := cn) (cg := fun j => nI (cn j)) (lv := lv) (q := 32) (N := 24) (z := (cpy (fun _ => -1) g 24, nI 0)) (w := w) (fun k hk h32 => by
    have o1 := (hok.2.1 k hk).1
    unfold okF at o1
    have := hc ((F k - 32) / 6) (by omega)
    exact whl_n (by omega) (by omega)) (fun p hp => by show cpy (fun _ => (-1 : Int32)) g 24 p = -1; rw [cpy_lt hp]) rfl w (Nat.le_refl _)
  refine ⟨?_, fun hn p hp => ?_⟩
  · rcases h.2 with ⟨a1, a2⟩ | ⟨a1, p, hp, a2⟩
    · rw [a1, mk_b_f]
      intro z
      obtain ⟨p, hp, e⟩ := (clX_iff 24).mp z
      exact a2 p hp e
    · rw [a1, mk_b_t ((clX_iff 24).mpr ⟨p, hp, a2⟩)]
  · rcases h.1 p hp with ⟨a1, -⟩ | ⟨-, a2⟩
    · exact absurd a1 (clX_not hn hp)
    · exact a2
/-- 24 jacks behind a card -/
theorem brC_24 {F T L t : Nat → Nat} {q w : Nat} {g : Nat → Int32} (hok : BdOk w F T L) (ht : ∀ j, j < 16 → sg (t j)) : (brC F T t q 24 w (cpy (fun _ => -1) g 24, nI 0)).2 = mk_b (clB F T t q w 24 = true) ∧ (clB F T t q w 24 = false → ∀ p, p < 24 → (brC F T t q 24 w (cpy (fun _ => -1) g 24, nI 0)).1 p = arN F T t (q + p) w) := by
  have h := brC_ar (q := q) (N := 24) (z := (cpy (fun _ => -1) g 24, nI 0)) (w := w) (fun k hk h32 => sgF_ok (hok.2.1 k hk).1 h32 ht) (fun p hp => by show cpy (fun _ => (-1 : Int32)) g 24 p = -1; rw [cpy_lt hp]) rfl w (Nat.le_refl _) (T := T)
  refine ⟨?_, fun hn p hp => ?_⟩
  · rcases h.2 with ⟨a1, a2⟩ | ⟨a1, p, hp, a2⟩
    · rw [a1, mk_b_f]
      intro z
      obtain ⟨p, hp, e⟩ := (clB_iff 24).mp z
      exact a2 p hp e
    · rw [a1, mk_b_t ((clB_iff 24).mpr ⟨p, hp, a2⟩)]
  · rcases h.1 p hp with ⟨a1, -⟩ | ⟨-, a2⟩
    · exact absurd a1 (clN_not hn hp)
    · exact a2
/-- the sign that is printed for what has come -/
def prN (a : Int32) : Nat := if a < 0 then 32 else a.toNatClampNeg
theorem prN_c {a : Int32} (h : a = -1 ∨ a = -2 ∨ ∃ c, sg c ∧ a = nI c) (h2 : a ≠ -2) : (if a = -1 then nI 32 else a) = nI (prN a) := by
  unfold prN
  rcases h with z | z | ⟨c, hc, z⟩
  · rw [z, if_pos rfl, if_pos (by decide)]
  · exact absurd z h2
  · have n3 := nI_nn hc
    have := sg_lt hc
    rw [z, if_neg n3.2.1, if_neg n3.1, nI_clamp (by omega)]
theorem prN_m {a : Int32} (h : a = -1 ∨ a = -2 ∨ ∃ c, sg c ∧ a = nI c) : sg (prN a) ∧ (if a < 0 then nI 32 else a) = nI (prN a) := by
  unfold prN
  rcases h with z | z | ⟨c, hc, z⟩
  · rw [z, if_pos (by decide), if_pos (by decide)]; exact ⟨Or.inl rfl, rfl⟩
  · rw [z, if_pos (by decide), if_pos (by decide)]; exact ⟨Or.inl rfl, rfl⟩
  · have n3 := nI_nn hc
    have := sg_lt hc
    rw [z, if_neg n3.1, if_neg n3.1, nI_clamp (by omega)]
    exact ⟨hc, rfl⟩
/-- what comes to a counter's wheels -/
def enD (a : Int32) : Nat := if a < 0 then 0 else dgz a.toNatClampNeg
def enN (F T t : Nat → Nat) (w c : Nat) : Nat → Nat
  | 0 => 0
  | k + 1 => enN F T t w c k + enD (arN F T t (64 + (c * 6 + k)) w) * 10 ^ k
theorem dgz9 {c : Nat} (hc : sg c) : dgz c ≤ 9 := by
  unfold sg at hc; unfold dgz dgN
  split
  · omega
  · split
    · omega
    · split
      · omega
      · split <;> omega
theorem enD9 {a : Int32} (h : a = -1 ∨ a = -2 ∨ ∃ c, sg c ∧ a = nI c) : enD a ≤ 9 := by
  unfold enD
  rcases h with z | z | ⟨c, hc, z⟩
  · rw [z, if_pos (by decide)]; decide
  · rw [z, if_pos (by decide)]; decide
  · have n3 := nI_nn hc
    have := sg_lt hc
    rw [z, if_neg n3.1, nI_clamp (by omega)]; exact dgz9 hc
theorem enN_lt {F T t L : Nat → Nat} {w c : Nat} (hok : BdOk w F T L) (ht : ∀ j, j < 16 → sg (t j)) : ∀ k, enN F T t w c k < 10 ^ k := by
  intro k
  induction k with
  | zero => exact Nat.one_pos
  | succ k ih =>
    unfold enN
    have h1 := enD9 (arN_sg (p := 64 + (c * 6 + k)) (T := T) hok ht)
    have h2 : enD (arN F T t (64 + (c * 6 + k)) w) * 10 ^ k ≤ 9 * 10 ^ k := Nat.mul_le_mul_right _ h1
    rw [Nat.pow_succ]
    omega
/-- counters, how many lines, the lines -/
abbrev tT : Type := (Nat → Nat) × Nat × (Nat → Nat → Nat)
def clr (L : Nat → Nat) (lv : Nat) (cn : Nat → Nat) : Nat → Nat := fun c => if c < 4 ∧ L c = lv then 0 else cn c
/-- how many total lines the levels below v give -/
def tlN (L : Nat → Nat) : Nat → Nat
  | 0 => 0
  | v + 1 => tlN L v + if hcB L v = true then 1 else 0
theorem tlN_le (L : Nat → Nat) : ∀ v, tlN L v ≤ v := by
  intro v
  induction v with
  | zero => exact Nat.le_refl _
  | succ v ih => unfold tlN; split <;> omega
theorem tlN_mono (L : Nat → Nat) (k : Nat) : ∀ j, tlN L k ≤ tlN L (k + j) := by
  intro j
  induction j with
  | zero => exact Nat.le_refl _
  | succ j ihj => refine Nat.le_trans ihj ?_; show _ ≤ tlN L (k + j) + _; omega
theorem hcB_of {L : Nat → Nat} {c v : Nat} (hc : c < 4) (h : L c = v) : hcB L v = true := by
  unfold hcB
  rcases (show c = 0 ∨ c = 1 ∨ c = 2 ∨ c = 3 by omega) with rfl | rfl | rfl | rfl <;> simp [h]
/-- the totals of the levels below k -/
def toF (F T L : Nat → Nat) (w : Nat) : Nat → tT → tT
  | 0, t => t
  | k + 1, t => if hcB L k = true then (clr L k (toF F T L w k t).1, (toF F T L w k t).2.1 + 1, va_up (toF F T L w k t).2.2 (toF F T L w k t).2.1 (fun p => prN (arX F T L (toF F T L w k t).1 k (32 + p) w))) else toF F T L w k t
theorem toF_ln {F T L : Nat → Nat} {w : Nat} {t : tT} : ∀ k, (toF F T L w k t).2.1 = t.2.1 + tlN L k := by
  intro k
  induction k with
  | zero => rfl
  | succ k ih =>
    unfold toF tlN
    by_cases h : hcB L k = true
    · rw [if_pos h, if_pos h]
      show (toF F T L w k t).2.1 + 1 = _
      omega
    · rw [if_neg h, if_neg h]; omega
theorem toF_cn {F T L : Nat → Nat} {w : Nat} {t : tT} {c : Nat} (hc : c < 4) : ∀ k, (toF F T L w k t).1 c = if L c < k then 0 else t.1 c := by
  intro k
  induction k with
  | zero => rw [if_neg (Nat.not_lt_zero _)]; rfl
  | succ k ih =>
    unfold toF
    by_cases h : hcB L k = true
    · rw [if_pos h]
      show (if c < 4 ∧ L c = k then 0 else (toF F T L w k t).1 c) = _
      rw [ih]
      by_cases e : L c = k
      · rw [if_pos ⟨hc, e⟩, if_pos (by omega)]
      · rw [if_neg (fun z => e z.2)]
        by_cases e2 : L c < k
        · rw [if_pos e2, if_pos (by omega)]
        · rw [if_neg e2, if_neg (by omega)]
    · rw [if_neg h, ih]
      have : L c ≠ k := fun z => h (hcB_of hc z)
      by_cases e2 : L c < k
      · rw [if_pos e2, if_pos (by omega)]
      · rw [if_neg e2, if_neg (by omega)]
theorem toF_lt {F T L : Nat → Nat} {w : Nat} {t : tT} (h : ∀ c, c < 4 → t.1 c < 1000000) (k : Nat) : ∀ c, c < 4 → (toF F T L w k t).1 c < 1000000 := fun c hc => by
  rw [toF_cn hc]
  have := h c hc
  split <;> omega
/-- does a level below k clash -/
def tcB (F T L cn : Nat → Nat) (w : Nat) : Nat → Bool
  | 0 => false
  | k + 1 => tcB F T L cn w k || clX F T L cn k w 24
theorem tcB_iff {F T L cn : Nat → Nat} {w : Nat} : ∀ k, tcB F T L cn w k = true ↔ ∃ v, v < k ∧ clX F T L cn v w 24 = true := by
  intro k
  induction k with
  | zero => exact ⟨fun z => (by cases z), fun ⟨p, hp, _⟩ => absurd hp (Nat.not_lt_zero _)⟩
  | succ k ih =>
    unfold tcB
    rw [Bool.or_eq_true, ih]
    constructor
    · rintro (⟨p, hp, e⟩ | e)
      · exact ⟨p, by omega, e⟩
      · exact ⟨k, by omega, e⟩
    · rintro ⟨p, hp, e⟩
      by_cases h : p = k
      · subst h; exact Or.inr e
      · exact Or.inl ⟨p, by omega, e⟩
/-- does a counter pass what its wheels show -/
def stN (L cn : Nat → Nat) (bk c : Nat) : Nat := if L c < bk then 0 else cn c
def ovB (F T L cn t : Nat → Nat) (w bk : Nat) : Nat → Bool
  | 0 => false
  | c + 1 => ovB F T L cn t w bk c || decide (1000000 ≤ stN L cn bk c + enN F T t w c 6)
theorem ovB_iff {F T L cn t : Nat → Nat} {w bk : Nat} : ∀ k, ovB F T L cn t w bk k = true ↔ ∃ c, c < k ∧ 1000000 ≤ stN L cn bk c + enN F T t w c 6 := by
  intro k
  induction k with
  | zero => exact ⟨fun z => (by cases z), fun ⟨p, hp, _⟩ => absurd hp (Nat.not_lt_zero _)⟩
  | succ k ih =>
    unfold ovB
    rw [Bool.or_eq_true, ih, decide_eq_true_eq]
    constructor
    · rintro (⟨p, hp, e⟩ | e)
      · exact ⟨p, by omega, e⟩
      · exact ⟨k, by omega, e⟩
    · rintro ⟨p, hp, e⟩
      by_cases h : p = k
      · subst h; exact Or.inr e
      · exact Or.inl ⟨p, by omega, e⟩
/-- the fault of a card -/
def fcN (F T L t : Nat → Nat) (w bk : Nat) (u : tT) : Nat := if tcB F T L u.1 w bk = true ∨ (lsB T 0 w = true ∧ clB F T t 32 w 24 = true) ∨ clB F T t 64 w 24 = true then 2 else if ovB F T L u.1 t w bk 4 = true then 3 else if u.2.1 + tlN L bk + (if lsB T 0 w = true then 1 else 0) ≤ 100 then 0 else 4
/-- a card, behind the totals ahead of it -/
def caS (F T t : Nat → Nat) (w : Nat) (P : Bool) (v : tT) : tT := (fun c => if c < 4 then v.1 c + enN F T t w c 6 else v.1 c, v.2.1 + (if P = true then 1 else 0), if P = true then va_up v.2.2 v.2.1 (fun p => prN (arN F T t (32 + p) w)) else v.2.2)
def feN (F T L : Nat → Nat) (w : Nat) (u : tT) : Nat := if tcB F T L u.1 w 4 = true then 2 else if u.2.1 + tlN L 4 ≤ 100 then 0 else 4
/-- behind the last card -/
def tbE (F T L : Nat → Nat) (w i : Nat) (u : tT) : Nat × Nat × tT := if i = 0 then (0, 0, u) else if feN F T L w u = 0 then (0, i, toF F T L w 4 u) else (feN F T L w u, i, u)
def bkN (F T : Nat → Nat) (w : Nat) (c : Nat → Nat) (s : Nat → Nat → Nat) (i : Nat) : Nat := if i = 0 then 0 else lbN F T (s (c (i - 1))) (s (c i)) w
theorem bkN_le {F T : Nat → Nat} {w : Nat} {c : Nat → Nat} {s : Nat → Nat → Nat} {i : Nat} : bkN F T w c s i ≤ 3 := by
  unfold bkN
  split
  · exact Nat.zero_le _
  · exact lbN_le w
/-- a run, from card i on: fault, card, what stands then -/
def tbG (F T L : Nat → Nat) (w : Nat) (c : Nat → Nat) (s : Nat → Nat → Nat) : Nat → Nat → tT → Nat × Nat × tT
  | 0, i, u => tbE F T L w i u
  | m + 1, i, u => if fcN F T L (s (c i)) w (bkN F T w c s i) u = 0 then tbG F T L w c s m (i + 1) (caS F T (s (c i)) w (lsB T 0 w) (toF F T L w (bkN F T w c s i) u)) else (fcN F T L (s (c i)) w (bkN F T w c s i) u, i, u)
