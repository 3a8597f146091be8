/-! the office's state, as far as p5 needs it: all is there, the boards' wires are good ones, each card lies in one deck -/
def deckQ : Nat → Option Nat := fun i => if i < 8 then some (126 + 2 * i) else none
def boardQ : Nat → Option Nat := fun i => if i < 4 then some (142 + 4 * i) else none
theorem deckQ_at {i : Nat} (h : i < 8) : deckQ i = some (126 + 2 * i) := by unfold deckQ; rw [if_pos h]
theorem boardQ_at {i : Nat} (h : i < 4) : boardQ i = some (142 + 4 * i) := by unfold boardQ; rw [if_pos h]
/-- what no call changes, and the machines' own cells -/
def CM (f : mz_H) (K : Nat) : Prop := f 0 = .inr (0, [.ref 1, .ref 2, .ref 3, .ref 4, .ref 5, .ref 8, .ref 13, .ref 16]) ∧ f 1 = aQ 4 8 deckQ ∧ f 2 = aQ 5 4 boardQ ∧ (∃ g, f 3 = aI 16 g) ∧ (∃ u w, f 4 = .inr (5, [.int u, .int w])) ∧ (∃ v, f 5 = .inr (9, [.ref 6, .ref 7, .int v])) ∧ (∃ g, f 6 = aI 11 g) ∧ (∃ g, f 7 = aQ 6 200 g) ∧ (∃ br, f 8 = .inr (3, [.ref 9, .ref 11, .int br])) ∧ (∃ c, Dk f 9 10 0 K c) ∧ (∃ c, Dk f 11 12 0 K c) ∧ f 13 = .inr (8, [.ref 14]) ∧ (∃ cl, f 14 = .inr (6, [.int (nI 0), .ref 15, .int cl])) ∧ (∃ g, f 15 = aI 16 g) ∧ f 1000000000001 = mz_d
def CB (f : mz_H) : Prop := ∀ i, i < 4 → ∃ w F T L, Bd f (142 + 4 * i) w F T L ∧ BdOk w F T L
def CD (f : mz_H) (K : Nat) (sz : Nat → Nat) (cd : Nat → Nat → Nat) : Prop := (∀ i, i < 8 → Dk f (126 + 2 * i) (127 + 2 * i) (sz i) K (cd i)) ∧ sz 0 + sz 1 + sz 2 + sz 3 + sz 4 + sz 5 + sz 6 + sz 7 = K
def CI (f : mz_H) (n K : Nat) (sz : Nat → Nat) (cd s : Nat → Nat → Nat) : Prop := ∃ x, n = 172 + 2 * K ∧ K ≤ 200 ∧ CM f K ∧ Tb f x ∧ CB f ∧ CD f K sz cd ∧ Cd f K s
/-- the reference's cells, which the class never touches -/
def FrM (f F : mz_H) : Prop := ∀ q, (q < 126 ∨ 158 ≤ q ∧ q < 172) → F q = f q
theorem Dk_eq {f F : mz_H} {D A r K : Nat} {c : Nat → Nat} (h : Dk f D A r K c) (h1 : F D = f D) (h2 : F A = f A) : Dk F D A r K c := by
  obtain ⟨g, e1, e2, e3⟩ := h
  exact ⟨g, h1.trans e1, h2.trans e2, e3⟩
theorem Dk0_eq {f F : mz_H} {D A r K : Nat} (h : ∃ c, Dk f D A r K c) (h1 : F D = f D) (h2 : F A = f A) : ∃ c, Dk F D A r K c := by
  obtain ⟨c, h⟩ := h
  exact ⟨c, Dk_eq h h1 h2⟩
theorem CM_eq {f F : mz_H} {K : Nat} (h : CM f K) (he : ∀ q, q < 16 → F q = f q) (h2 : F 1000000000001 = f 1000000000001) : CM F K := by
  obtain ⟨c1, c2, c3, c4, c5, c6, c7, c8, c9, c10, c11, c12, c13, c14, c15⟩ := h
  refine ⟨?_, ?_, ?_, ?_, ?_, ?_, ?_, ?_, ?_, Dk0_eq c10 (he _ (by decide)) (he _ (by decide)), Dk0_eq c11 (he _ (by decide)) (he _ (by decide)), ?_, ?_, ?_, h2.trans c15⟩ <;> rw [he _ (by decide)] <;> assumption
theorem Pa_eq {f F : mz_H} {x : Nat} (h : Pa f x) (he : ∀ q, 16 ≤ q → q < 126 → F q = f q) : Pa F x := by
  refine ⟨?_, ?_, fun i hi => ?_⟩
  · rw [he _ (by decide) (by decide)]; exact h.1
  · rw [he _ (by decide) (by decide)]; exact h.2.1
  · rw [he _ (by omega) (by omega)]; exact h.2.2 i hi
theorem Tb_eq {f F : mz_H} {x : Nat} (h : Tb f x) (he : ∀ q, 16 ≤ q → q < 126 → F q = f q) : Tb F x := by
  obtain ⟨t1, t2, t3, t4, t5, t6, t7, t8, t9, t10⟩ := h
  refine ⟨?_, ?_, Pa_eq t3 he, t4, ?_, ?_, ?_, ?_, ?_, ?_⟩ <;> rw [he _ (by decide) (by decide)] <;> assumption
theorem CD_eq {f F : mz_H} {K : Nat} {sz : Nat → Nat} {cd : Nat → Nat → Nat} (h : CD f K sz cd) (he : ∀ q, 126 ≤ q → q < 142 → F q = f q) : CD F K sz cd := ⟨fun i hi => Dk_eq (h.1 i hi) (he _ (by omega) (by omega)) (he _ (by omega) (by omega)), h.2⟩
theorem Cd_eq {f F : mz_H} {K : Nat} {s : Nat → Nat → Nat} (h : Cd f K s) (hK : K ≤ 200) (he : ∀ q, 172 ≤ q → q < 1000 → F q = f q) : Cd F K s := fun k hk => by
  rw [he _ (by omega) (by omega), he _ (by omega) (by omega)]; exact h k hk
theorem CB_set {f F : mz_H} (h : CB f) {i w : Nat} {A T L : Nat → Nat} (hi : i < 4) (hB : Bd F (142 + 4 * i) w A T L) (hok : BdOk w A T L) (he : ∀ q, (q < 142 + 4 * i ∨ 145 + 4 * i < q) → F q = f q) : CB F := by
  intro j hj
  by_cases e : j = i
  · subst e; exact ⟨w, A, T, L, hB, hok⟩
  · obtain ⟨w', A', T', L', q1, q2⟩ := h j hj
    refine ⟨w', A', T', L', ?_, q2⟩
    unfold Bd
    rw [he _ (by omega), he _ (by omega), he _ (by omega), he _ (by omega)]
    exact q1
/-- a call that changes one board alone -/
theorem CI_bd {f F : mz_H} {n K : Nat} {sz : Nat → Nat} {cd s : Nat → Nat → Nat} (h : CI f n K sz cd s) {i w : Nat} {A T L : Nat → Nat} (hi : i < 4) (hB : Bd F (142 + 4 * i) w A T L) (hok : BdOk w A T L) (he : ∀ q, (q < 142 + 4 * i ∨ 145 + 4 * i < q) → F q = f q) : CI F n K sz cd s ∧ FrM f F := by
  obtain ⟨x, h1, h2, h3, h4, h5, h6, h7⟩ := h
  exact ⟨⟨x, h1, h2, CM_eq h3 (fun q hq => he q (by omega)) (he _ (by omega)), Tb_eq h4 (fun q _ hq => he q (by omega)), CB_set h5 hi hB hok he, CD_eq h6 (fun q _ hq => he q (by omega)), Cd_eq h7 h2 (fun q hq _ => he q (by omega))⟩, fun q h1 => he q (by omega)⟩
/-! the boards, exactly: how many wires, from where, to where, the counters' levels -/
abbrev bS : Type := (Nat → Nat) × (Nat → Nat → Nat) × (Nat → Nat → Nat) × (Nat → Nat → Nat)
def bOk (B : bS) : Prop := ∀ i, i < 4 → BdOk (B.1 i) (B.2.1 i) (B.2.2.1 i) (B.2.2.2 i)
def BX (f : mz_H) (B : bS) : Prop := ∀ i, i < 4 → Bd f (142 + 4 * i) (B.1 i) (B.2.1 i) (B.2.2.1 i) (B.2.2.2 i)
def bs0 : bS := (fun _ => 0, fun _ _ => 0, fun _ _ => 0, fun _ => cpy (fun _ => 3) (fun _ => 0) 4)
/-- nothing but the class's cells ahead of the boards, and its cards -/
def FrB (f F : mz_H) : Prop := ∀ q, (16 ≤ q ∧ q < 126 ∨ 142 ≤ q) → q < 172 → F q = f q
/-- the same, but for the tabulator -/
def FrY (f F : mz_H) : Prop := ∀ q, 142 ≤ q → q < 172 → F q = f q
theorem FrB_Y {f F : mz_H} (h : FrB f F) : FrY f F := fun q a b => h q (Or.inr a) b
theorem TT_B {f F : mz_H} {u : tT} (h : TT f u) (hF : FrB f F) : TT F u := TT_eq h (fun q hq => hF q (by omega) (by omega))
/-- the light, how many passes, how many cards were brought -/
abbrev mS : Type := Int32 × Int32 × Int32 × Int32
def MC (f : mz_H) (m : mS) : Prop := f 4 = .inr (5, [.int m.1, .int m.2.1]) ∧ f 5 = .inr (9, [.ref 6, .ref 7, .int m.2.2.1]) ∧ f 8 = .inr (3, [.ref 9, .ref 11, .int m.2.2.2])
def MU (f F : mz_H) (φ : mS → mS) : Prop := ∀ m, MC f m → MC F (φ m)
def mS0 : mS := (nI 0, -1, nI 0, nI 0)
def ps_U (d : Int32) : mS → mS := fun m => (m.1, m.2.1, m.2.2.1 + d, m.2.2.2)
def br_U (d : Int32) : mS → mS := fun m => (m.1, m.2.1, m.2.2.1, m.2.2.2 + d)
def lg_U (k i : Nat) : mS → mS := fun m => (nI k, if k = 0 then -1 else nI i, m.2.2.1, m.2.2.2)
def no_U : mS → mS := fun m => m
theorem MU_n {f F : mz_H} (h4 : F 4 = f 4) (h5 : F 5 = f 5) (h8 : F 8 = f 8) : MU f F no_U := fun m ⟨a, b, c⟩ => ⟨h4.trans a, h5.trans b, h8.trans c⟩
theorem MU_rf (f : mz_H) : MU f f no_U := fun m h => h
theorem MU_p {f F : mz_H} {v d : Int32} (h4 : F 4 = f 4) (h8 : F 8 = f 8) (k5 : f 5 = .inr (9, [.ref 6, .ref 7, .int v])) (h5 : F 5 = .inr (9, [.ref 6, .ref 7, .int (v + d)])) : MU f F (ps_U d) := fun m ⟨a, b, c⟩ => by
  rw [k5] at b
  have e : v = m.2.2.1 := by cases b; rfl
  rw [e] at h5
  exact ⟨h4.trans a, h5, h8.trans c⟩
theorem MU_b {f F : mz_H} {v d : Int32} (h4 : F 4 = f 4) (h5 : F 5 = f 5) (k8 : f 8 = .inr (3, [.ref 9, .ref 11, .int v])) (h8 : F 8 = .inr (3, [.ref 9, .ref 11, .int (v + d)])) : MU f F (br_U d) := fun m ⟨a, b, c⟩ => by
  rw [k8] at c
  have e : v = m.2.2.2 := by cases c; rfl
  rw [e] at h8
  exact ⟨h4.trans a, h5.trans b, h8⟩
theorem MU_l {f F : mz_H} {k i : Nat} (h4 : F 4 = lightC k i) (h5 : F 5 = f 5) (h8 : F 8 = f 8) : MU f F (lg_U k i) := fun m ⟨a, b, c⟩ => ⟨h4, h5.trans b, h8.trans c⟩
theorem MC_M {f F : mz_H} {m : mS} (h : MC f m) (hF : FrM f F) : MC F m := ⟨(hF 4 (by decide)).trans h.1, (hF 5 (by decide)).trans h.2.1, (hF 8 (by decide)).trans h.2.2⟩
theorem TT_M {f F : mz_H} {u : tT} (h : TT f u) (hF : FrM f F) : TT F u := TT_eq h (fun q hq => hF q (by omega))
def lvS (B : bS) (x y z : Int32) : bS := if (0 ≤ x.toInt ∧ x.toInt < 4) ∧ (0 ≤ y.toInt ∧ y.toInt < 4) ∧ 0 ≤ z.toInt ∧ z.toInt < 4 then (B.1, B.2.1, B.2.2.1, va_up B.2.2.2 x.toNatClampNeg (va_up (B.2.2.2 x.toNatClampNeg) y.toNatClampNeg z.toNatClampNeg)) else B
def stO (B : bS) (x : Int32) : Int32 := if 0 ≤ x.toInt ∧ x.toInt < 4 then nI (B.1 x.toNatClampNeg) else -1
def stS (B : bS) (x : Int32) : bS := if 0 ≤ x.toInt ∧ x.toInt < 4 then (va_up B.1 x.toNatClampNeg 0, B.2.1, B.2.2.1, va_up B.2.2.2 x.toNatClampNeg (cpy (fun _ => 3) (B.2.2.2 x.toNatClampNeg) 4)) else B
def wrO (B : bS) (x y z : Int32) : Bool := decide ((0 ≤ x.toInt ∧ x.toInt < 4) ∧ (0 ≤ y.toInt ∧ y.toInt < 26 ∨ 32 ≤ y.toInt ∧ y.toInt < 56) ∧ ((0 ≤ z.toInt ∧ z.toInt < 16) ∨ 32 ≤ z.toInt ∧ z.toInt < 56 ∨ 64 ≤ z.toInt ∧ z.toInt < 88 ∨ 96 ≤ z.toInt ∧ z.toInt < 100) ∧ B.1 x.toNatClampNeg < 40 ∧ hwB (B.2.1 x.toNatClampNeg) (B.2.2.1 x.toNatClampNeg) y.toNatClampNeg z.toNatClampNeg 0 (B.1 x.toNatClampNeg) = false)
def wrA (B : bS) (i j k : Nat) : bS := (va_up B.1 i (B.1 i + 1), va_up B.2.1 i (va_up (B.2.1 i) (B.1 i) j), va_up B.2.2.1 i (va_up (B.2.2.1 i) (B.1 i) k), B.2.2.2)
def wrS (B : bS) (x y z : Int32) : bS := if wrO B x y z = true then wrA B x.toNatClampNeg y.toNatClampNeg z.toNatClampNeg else B
theorem bs0_ok : bOk bs0 := fun i _ => ⟨Nat.zero_le 40, fun j hj => absurd hj (Nat.not_lt_zero _), fun j hj => by show cpy (fun _ => 3) (fun _ => 0) 4 j < 4; rw [cpy_lt hj]; decide⟩
theorem BX_CB {f : mz_H} {B : bS} (h : BX f B) (hk : bOk B) : CB f := fun i hi => ⟨_, _, _, _, h i hi, hk i hi⟩
theorem BX_eq {f F : mz_H} {B : bS} (h : BX f B) (he : ∀ q, 142 ≤ q → q < 158 → F q = f q) : BX F B := fun i hi => by
  unfold Bd
  rw [he _ (by omega) (by omega), he _ (by omega) (by omega), he _ (by omega) (by omega), he _ (by omega) (by omega)]
  exact h i hi
theorem BX_set {f F : mz_H} {B : bS} (h : BX f B) {i w : Nat} {A T L : Nat → Nat} (hB : Bd F (142 + 4 * i) w A T L) (he : ∀ q, (q < 142 + 4 * i ∨ 145 + 4 * i < q) → F q = f q) : BX F (va_up B.1 i w, va_up B.2.1 i A, va_up B.2.2.1 i T, va_up B.2.2.2 i L) := by
  intro j hj
  by_cases e : j = i
  · subst e
    show Bd F (142 + 4 * j) (va_up B.1 j w j) (va_up B.2.1 j A j) (va_up B.2.2.1 j T j) (va_up B.2.2.2 j L j)
    rw [va_up_self, va_up_self, va_up_self, va_up_self]
    exact hB
  · show Bd F (142 + 4 * j) (va_up B.1 i w j) (va_up B.2.1 i A j) (va_up B.2.2.1 i T j) (va_up B.2.2.2 i L j)
    rw [va_up_ne _ _ e, va_up_ne _ _ e, va_up_ne _ _ e, va_up_ne _ _ e]
    unfold Bd
    rw [he _ (by omega), he _ (by omega), he _ (by omega), he _ (by omega)]
    exact h j hj
theorem bOk_set {B : bS} (h : bOk B) {i w : Nat} {A T L : Nat → Nat} (hB : BdOk w A T L) : bOk (va_up B.1 i w, va_up B.2.1 i A, va_up B.2.2.1 i T, va_up B.2.2.2 i L) := by
  intro j hj
  by_cases e : j = i
  · subst e
    show BdOk (va_up B.1 j w j) (va_up B.2.1 j A j) (va_up B.2.2.1 j T j) (va_up B.2.2.2 j L j)
    rw [va_up_self, va_up_self, va_up_self, va_up_self]
    exact hB
  · show BdOk (va_up B.1 i w j) (va_up B.2.1 i A j) (va_up B.2.2.1 i T j) (va_up B.2.2.2 i L j)
    rw [va_up_ne _ _ e, va_up_ne _ _ e, va_up_ne _ _ e, va_up_ne _ _ e]
    exact h j hj
theorem vu_id {α : Type} (f : Nat → α) (k : Nat) : va_up f k (f k) = f := by
  funext j; unfold va_up; split
  · rename_i h; rw [h]
  · rfl
theorem lvS_ok {B : bS} (h : bOk B) (x y z : Int32) : bOk (lvS B x y z) := by
  unfold lvS
  split
  · rename_i q
    obtain ⟨⟨x0, x4⟩, ⟨y0, y4⟩, z0, z4⟩ := q
    obtain ⟨i, hi, rfl⟩ := mk_nat (N := 4) x0 x4 (by decide)
    obtain ⟨j, hj, rfl⟩ := mk_nat (N := 4) y0 y4 (by decide)
    obtain ⟨k, hk, rfl⟩ := mk_nat (N := 4) z0 z4 (by decide)
    rw [nI_clamp (by omega), nI_clamp (by omega), nI_clamp (by omega)]
    have := bOk_set (i := i) h (w := B.1 i) (A := B.2.1 i) (T := B.2.2.1 i) (L := va_up (B.2.2.2 i) j k) ⟨(h i hi).1, (h i hi).2.1, fun m hm => by
      by_cases e : m = j
      · subst e; rw [va_up_self]; exact hk
      · rw [va_up_ne _ _ e]; exact (h i hi).2.2 m hm⟩
    rw [vu_id, vu_id, vu_id] at this
    exact this
  · exact h
theorem stS_ok {B : bS} (h : bOk B) (x : Int32) : bOk (stS B x) := by
  unfold stS
  split
  · rename_i q
    obtain ⟨i, hi, rfl⟩ := mk_nat (N := 4) q.1 q.2 (by decide)
    rw [nI_clamp (by omega)]
    have := bOk_set (i := i) h (w := 0) (A := B.2.1 i) (T := B.2.2.1 i) (L := cpy (fun _ => 3) (B.2.2.2 i) 4) ⟨by decide, fun j hj => absurd hj (by omega), fun j hj => by rw [cpy_lt hj]; decide⟩
    rw [vu_id, vu_id] at this
    exact this
  · exact h
theorem wrS_ok {B : bS} (h : bOk B) (x y z : Int32) : bOk (wrS B x y z) := by
  unfold wrS
  split
  · rename_i q
    obtain ⟨q1, q2, q3, q4, -⟩ := of_decide_eq_true q
    obtain ⟨i, hi, rfl⟩ := mk_nat (x := x) (N := 4) q1.1 q1.2 (by decide)
    obtain ⟨j, hj, rfl⟩ := mk_nat (x := y) (N := 56) (by omega) (by omega) (by decide)
    obtain ⟨k, hk, rfl⟩ := mk_nat (x := z) (N := 100) (by omega) (by omega) (by decide)
    rw [mk_nti (show j < 2 ^ 31 by omega)] at q2
    rw [mk_nti (show k < 2 ^ 31 by omega)] at q3
    rw [nI_clamp (by omega)] at q4
    rw [nI_clamp (by omega), nI_clamp (by omega), nI_clamp (by omega)]
    have := bOk_set (i := i) h (w := B.1 i + 1) (A := va_up (B.2.1 i) (B.1 i) j) (T := va_up (B.2.2.1 i) (B.1 i) k) (L := B.2.2.2 i) ⟨by omega, fun m hm => by
      by_cases e : m = B.1 i
      · subst e; rw [va_up_self, va_up_self]; exact ⟨by unfold okF; omega, by unfold okT; omega⟩
      · rw [va_up_ne _ _ e, va_up_ne _ _ e]; exact (h i hi).2.1 m (by omega), (h i hi).2.2⟩
    rw [vu_id B.2.2.2] at this
    exact this
  · exact h
set_option maxRecDepth 20000 in
theorem c_Office_level (G : mz_G) (n : Nat) (f : mz_H) {x y z : Int32} {B : bS} {K : Nat} {sz : Nat → Nat} {cd s : Nat → Nat → Nat} (h : CI f n K sz cd s) (hB : BX f B) (hk : bOk B) :
    mz_Ct G mk_P y_Office_level b_Office_level 4 (some .boolean) (r_Office_level 0 0) [.ref 0, .int x, .int y, .int z] n f (fun v n' f' => v = some (.int (mk_b ((0 ≤ x.toInt ∧ x.toInt < 4) ∧ (0 ≤ y.toInt ∧ y.toInt < 4) ∧ 0 ≤ z.toInt ∧ z.toInt < 4))) ∧ n' = n ∧ CI f' n K sz cd s ∧ FrM f f' ∧ BX f' (lvS B x y z)) := by
  have hr : ∀ B', B' = B → CI f n K sz cd s ∧ FrM f f ∧ BX f B' := fun B' e => ⟨h, fun _ _ => rfl, by rw [e]; exact hB⟩
  obtain ⟨lx, h1, h2, h3, h4, h5, h6, h7⟩ := id h
  have ho := h3.1
  have hb := h3.2.2.1
  refine mk_Ct 0 false [some (.ref 0), some (.int x), some (.int y), some (.int z)] (by decide) rfl (by decide) (Nat.le_of_ble_eq_true rfl) rfl ?_
  refine mz_go [1] 20 ?_
  simp only [mz_r0, ev_0, ev_1, ev_2, ev_3, ev_4, ev_5, ev_6, ev_7, ev_8, ev_9, ev_10, ev_11, ev_12, ev_13, ev_14, ev_15, ev_16, ev_17, ev_18, ev_19, ev_20, ev_21, ev_22, ev_23, ev_24, ev_25, ev_26, ev_27, ev_28, ev_29, ev_30, ev_31, ev_32, ev_33, ev_34, ev_35, ev_36, ev_37, ev_38, ev_39, ev_40, ev_41, ev_42, ev_43, ev_44, ev_45, ev_46, ev_47, ev_48, ev_49, ev_50, ev_51, ev_52, ev_53, ev_54, ev_55, ev_56, ev_57, ev_58, ev_59, ev_60, ev_61, ev_62, ev_63, ev_64, ev_65, ev_66, ev_67, ev_68, ev_69, ev_70, ev_71, ev_72, ev_73, ev_74, ev_75, ev_76, ev_77, ev_78, ev_79, ev_80, ev_81, ev_82, ev_83, mk_lit, mk_fin, mk_cat, mk_fit, mk_nar, mk_fld, mk_cls, mk_ty, mk_isr, List.mem_cons, List.not_mem_nil, or_false, or_true, false_or, true_or, Nat.reduceEqDiff, Nat.reduceAdd, Nat.reduceSub, Nat.reduceLT, Nat.reduceLeDiff, ↓reduceIte, if_true, if_false, List.getElem?_cons_zero, List.getElem?_cons_succ, List.set_cons_zero, List.set_cons_succ, List.length_cons, List.length_nil, mz_s1, mz_s2, mz_cl, true_and, and_true, false_and, and_false, List.append_nil, mk_b0, mk_b1, mk_b2, mk_bn, Value.int.injEq, Option.toList_some, Option.toList_none, List.cons_append, List.nil_append, Classical.not_not, Option.some.injEq, reduceCtorEq, ne_eq, not_true_eq_false, not_false_eq_true, false_implies, true_implies, mz_rl d_Office_level_0, nF_0]
  refine mz_callS (by simp only [d_Office_level_1, Nat.reduceAdd]) g_0_84 rfl (fun _ _ h => h) (c_Office_isBoard G mk_P n f x) (by decide) (Nat.le_of_ble_eq_true rfl) rfl ?_; intro v_ n_ f_ h_; obtain ⟨rfl, hn_, hf_⟩ := h_; replace hn_ := hn_.symm; replace hf_ := hf_.symm; subst hn_; subst hf_
  by_cases hx : 0 ≤ x.toInt ∧ x.toInt < 4
  · refine mz_go [8] 20 ?_
    simp only [mz_r0, ev_0, ev_1, ev_2, ev_3, ev_4, ev_5, ev_6, ev_7, ev_8, ev_9, ev_10, ev_11, ev_12, ev_13, ev_14, ev_15, ev_16, ev_17, ev_18, ev_19, ev_20, ev_21, ev_22, ev_23, ev_24, ev_25, ev_26, ev_27, ev_28, ev_29, ev_30, ev_31, ev_32, ev_33, ev_34, ev_35, ev_36, ev_37, ev_38, ev_39, ev_40, ev_41, ev_42, ev_43, ev_44, ev_45, ev_46, ev_47, ev_48, ev_49, ev_50, ev_51, ev_52, ev_53, ev_54, ev_55, ev_56, ev_57, ev_58, ev_59, ev_60, ev_61, ev_62, ev_63, ev_64, ev_65, ev_66, ev_67, ev_68, ev_69, ev_70, ev_71, ev_72, ev_73, ev_74, ev_75, ev_76, ev_77, ev_78, ev_79, ev_80, ev_81, ev_82, ev_83, mk_lit, mk_fin, mk_cat, mk_fit, mk_nar, mk_fld, mk_cls, mk_ty, mk_isr, List.mem_cons, List.not_mem_nil, or_false, or_true, false_or, true_or, Nat.reduceEqDiff, Nat.reduceAdd, Nat.reduceSub, Nat.reduceLT, Nat.reduceLeDiff, ↓reduceIte, if_true, if_false, List.getElem?_cons_zero, List.getElem?_cons_succ, List.set_cons_zero, List.set_cons_succ, List.length_cons, List.length_nil, mz_s1, mz_s2, mz_cl, true_and, and_true, false_and, and_false, List.append_nil, mk_b0, mk_b1, mk_b2, mk_bn, Value.int.injEq, Option.toList_some, Option.toList_none, List.cons_append, List.nil_append, Classical.not_not, Option.some.injEq, reduceCtorEq, ne_eq, not_true_eq_false, not_false_eq_true, false_implies, true_implies, mz_rl d_Office_level_4, mz_rl d_Office_level_7, mz_rl d_Office_level_23, mz_rl d_Office_level_24, j_Office_level_4, nF_0, eq_true hx]
    refine mz_callS (by simp only [d_Office_level_8, Nat.reduceAdd]) g_0_100 rfl (fun _ _ h => h) (c_Office_isCounter G mk_P n f y) (by decide) (Nat.le_of_ble_eq_true rfl) rfl ?_; intro v_ n_ f_ h_; obtain ⟨rfl, hn_, hf_⟩ := h_; replace hn_ := hn_.symm; replace hf_ := hf_.symm; subst hn_; subst hf_
    by_cases hy : 0 ≤ y.toInt ∧ y.toInt < 4
    · by_cases hz : 0 ≤ z.toInt ∧ z.toInt < 4
      · obtain ⟨i, hi, rfl⟩ := mk_nat (N := 4) hx.1 hx.2 (by decide)
        obtain ⟨j, hj, rfl⟩ := mk_nat (N := 4) hy.1 hy.2 (by decide)
        obtain ⟨k, hk4, rfl⟩ := mk_nat (N := 4) hz.1 hz.2 (by decide)
        have q1 := hB i hi
        have q2 := hk i hi
        have e1 : ¬ nI k < 0 := by
          show ¬ nI k < nI 0
          rw [nI_ltI (show k < 2 ^ 31 by omega) (by decide)]; omega
        refine mz_go [] 60 ?_
        simp only [mz_r0, ev_0, ev_1, ev_2, ev_3, ev_4, ev_5, ev_6, ev_7, ev_8, ev_9, ev_10, ev_11, ev_12, ev_13, ev_14, ev_15, ev_16, ev_17, ev_18, ev_19, ev_20, ev_21, ev_22, ev_23, ev_24, ev_25, ev_26, ev_27, ev_28, ev_29, ev_30, ev_31, ev_32, ev_33, ev_34, ev_35, ev_36, ev_37, ev_38, ev_39, ev_40, ev_41, ev_42, ev_43, ev_44, ev_45, ev_46, ev_47, ev_48, ev_49, ev_50, ev_51, ev_52, ev_53, ev_54, ev_55, ev_56, ev_57, ev_58, ev_59, ev_60, ev_61, ev_62, ev_63, ev_64, ev_65, ev_66, ev_67, ev_68, ev_69, ev_70, ev_71, ev_72, ev_73, ev_74, ev_75, ev_76, ev_77, ev_78, ev_79, ev_80, ev_81, ev_82, ev_83, mk_lit, mk_fin, mk_cat, mk_fit, mk_nar, mk_fld, mk_cls, mk_ty, mk_isr, List.mem_cons, List.not_mem_nil, or_false, or_true, false_or, true_or, Nat.reduceEqDiff, Nat.reduceAdd, Nat.reduceSub, Nat.reduceLT, Nat.reduceLeDiff, ↓reduceIte, if_true, if_false, List.getElem?_cons_zero, List.getElem?_cons_succ, List.set_cons_zero, List.set_cons_succ, List.length_cons, List.length_nil, mz_s1, mz_s2, mz_cl, true_and, and_true, false_and, and_false, List.append_nil, mk_b0, mk_b1, mk_b2, mk_bn, Value.int.injEq, Option.toList_some, Option.toList_none, List.cons_append, List.nil_append, Classical.not_not, Option.some.injEq, reduceCtorEq, ne_eq, not_true_eq_false, not_false_eq_true, false_implies, true_implies, mz_rl d_Office_level_11, mz_rl d_Office_level_14, mz_rl d_Office_level_15, mz_rl d_Office_level_18, mz_rl d_Office_level_19, mz_rl d_Office_level_20, mz_rl d_Office_level_23, mz_rl d_Office_level_24, mz_rl d_Office_level_25, mz_rl d_Office_level_26, mz_rl d_Office_level_29, mz_rl d_Office_level_30, mz_rl d_Office_level_31, mz_rl d_Office_level_34, mz_rl d_Office_level_35, mz_rl d_Office_level_36, mz_rl d_Office_level_37, mz_rl d_Office_level_38, j_Office_level_11, j_Office_level_15, j_Office_level_20, nF_0, eq_true hy, eq_true hx, eq_true hz, e1, nI_ltI (show k < 2 ^ 31 by omega) (show 4 < 2 ^ 31 by decide), eq_true hk4, ho, hb, vp_in_nI hi (show 4 < 2 ^ 31 by decide), vp_in_nI hj (show 4 < 2 ^ 31 by decide), nI_clamp (show i < 2 ^ 31 by omega), nI_clamp (show j < 2 ^ 31 by omega), boardQ_at hi, va_rf, q1.1, q1.2.2.2, upd_nI]
        have eB : Bd (mz_u f (142 + 4 * i + 3) (aI 4 (fun m => nI (va_up (B.2.2.2 i) j k m)))) (142 + 4 * i) (B.1 i) (B.2.1 i) (B.2.2.1 i) (va_up (B.2.2.2 i) j k) := ⟨by rw [mz_u_n (by omega)]; exact q1.1, by rw [mz_u_n (by omega)]; exact q1.2.1, by rw [mz_u_n (by omega)]; exact q1.2.2.1, mz_u_s _ _ _⟩
        have := CI_bd (F := mz_u f (142 + 4 * i + 3) (aI 4 (fun m => nI (va_up (B.2.2.2 i) j k m)))) h hi eB ⟨q2.1, q2.2.1, fun m hm => by
          by_cases e : m = j
          · subst e; rw [va_up_self]; exact hk4
          · rw [va_up_ne _ _ e]; exact q2.2.2 m hm⟩ (fun q hq => mz_u_n (by omega))
        refine ⟨this.1, this.2, ?_⟩
        have w := BX_set hB eB (fun q hq => mz_u_n (by omega))
        rw [vu_id, vu_id, vu_id] at w
        unfold lvS
        rw [if_pos ⟨hx, hy, hz⟩, nI_clamp (show i < 2 ^ 31 by omega), nI_clamp (show j < 2 ^ 31 by omega), nI_clamp (show k < 2 ^ 31 by omega)]
        exact w
      · by_cases hz0 : z < 0
        · refine mz_go [] 60 ?_
          simp only [mz_r0, ev_0, ev_1, ev_2, ev_3, ev_4, ev_5, ev_6, ev_7, ev_8, ev_9, ev_10, ev_11, ev_12, ev_13, ev_14, ev_15, ev_16, ev_17, ev_18, ev_19, ev_20, ev_21, ev_22, ev_23, ev_24, ev_25, ev_26, ev_27, ev_28, ev_29, ev_30, ev_31, ev_32, ev_33, ev_34, ev_35, ev_36, ev_37, ev_38, ev_39, ev_40, ev_41, ev_42, ev_43, ev_44, ev_45, ev_46, ev_47, ev_48, ev_49, ev_50, ev_51, ev_52, ev_53, ev_54, ev_55, ev_56, ev_57, ev_58, ev_59, ev_60, ev_61, ev_62, ev_63, ev_64, ev_65, ev_66, ev_67, ev_68, ev_69, ev_70, ev_71, ev_72, ev_73, ev_74, ev_75, ev_76, ev_77, ev_78, ev_79, ev_80, ev_81, ev_82, ev_83, mk_lit, mk_fin, mk_cat, mk_fit, mk_nar, mk_fld, mk_cls, mk_ty, mk_isr, List.mem_cons, List.not_mem_nil, or_false, or_true, false_or, true_or, Nat.reduceEqDiff, Nat.reduceAdd, Nat.reduceSub, Nat.reduceLT, Nat.reduceLeDiff, ↓reduceIte, if_true, if_false, List.getElem?_cons_zero, List.getElem?_cons_succ, List.set_cons_zero, List.set_cons_succ, List.length_cons, List.length_nil, mz_s1, mz_s2, mz_cl, true_and, and_true, false_and, and_false, List.append_nil, mk_b0, mk_b1, mk_b2, mk_bn, Value.int.injEq, Option.toList_some, Option.toList_none, List.cons_append, List.nil_append, Classical.not_not, Option.some.injEq, reduceCtorEq, ne_eq, not_true_eq_false, not_false_eq_true, false_implies, true_implies, mz_rl d_Office_level_11, mz_rl d_Office_level_14, mz_rl d_Office_level_15, mz_rl d_Office_level_18, mz_rl d_Office_level_19, mz_rl d_Office_level_20, mz_rl d_Office_level_23, mz_rl d_Office_level_24, mz_rl d_Office_level_25, mz_rl d_Office_level_26, mz_rl d_Office_level_29, mz_rl d_Office_level_30, mz_rl d_Office_level_31, mz_rl d_Office_level_34, mz_rl d_Office_level_35, mz_rl d_Office_level_36, mz_rl d_Office_level_37, mz_rl d_Office_level_38, j_Office_level_11, j_Office_level_15, j_Office_level_20, nF_0, eq_true hy, eq_true hx, eq_false hz, eq_true hz0]
          exact hr _ (if_neg (fun q => hz q.2.2))
        · have hz4 : ¬ z < nI 4 := fun q => hz ⟨by
              have q0 : ¬ z.toInt < (0 : Int32).toInt := fun w => hz0 (Int32.lt_iff_toInt_lt.mpr w)
              have q1 : (0 : Int32).toInt = 0 := rfl
              omega, by
              have q0 := Int32.lt_iff_toInt_lt.mp q
              have q1 : (nI 4).toInt = 4 := rfl
              omega⟩
          refine mz_go [] 60 ?_
          simp only [mz_r0, ev_0, ev_1, ev_2, ev_3, ev_4, ev_5, ev_6, ev_7, ev_8, ev_9, ev_10, ev_11, ev_12, ev_13, ev_14, ev_15, ev_16, ev_17, ev_18, ev_19, ev_20, ev_21, ev_22, ev_23, ev_24, ev_25, ev_26, ev_27, ev_28, ev_29, ev_30, ev_31, ev_32, ev_33, ev_34, ev_35, ev_36, ev_37, ev_38, ev_39, ev_40, ev_41, ev_42, ev_43, ev_44, ev_45, ev_46, ev_47, ev_48, ev_49, ev_50, ev_51, ev_52, ev_53, ev_54, ev_55, ev_56, ev_57, ev_58, ev_59, ev_60, ev_61, ev_62, ev_63, ev_64, ev_65, ev_66, ev_67, ev_68, ev_69, ev_70, ev_71, ev_72, ev_73, ev_74, ev_75, ev_76, ev_77, ev_78, ev_79, ev_80, ev_81, ev_82, ev_83, mk_lit, mk_fin, mk_cat, mk_fit, mk_nar, mk_fld, mk_cls, mk_ty, mk_isr, List.mem_cons, List.not_mem_nil, or_false, or_true, false_or, true_or, Nat.reduceEqDiff, Nat.reduceAdd, Nat.reduceSub, Nat.reduceLT, Nat.reduceLeDiff, ↓reduceIte, if_true, if_false, List.getElem?_cons_zero, List.getElem?_cons_succ, List.set_cons_zero, List.set_cons_succ, List.length_cons, List.length_nil, mz_s1, mz_s2, mz_cl, true_and, and_true, false_and, and_false, List.append_nil, mk_b0, mk_b1, mk_b2, mk_bn, Value.int.injEq, Option.toList_some, Option.toList_none, List.cons_append, List.nil_append, Classical.not_not, Option.some.injEq, reduceCtorEq, ne_eq, not_true_eq_false, not_false_eq_true, false_implies, true_implies, mz_rl d_Office_level_11, mz_rl d_Office_level_14, mz_rl d_Office_level_15, mz_rl d_Office_level_18, mz_rl d_Office_level_19, mz_rl d_Office_level_20, mz_rl d_Office_level_23, mz_rl d_Office_level_24, mz_rl d_Office_level_25, mz_rl d_Office_level_26, mz_rl d_Office_level_29, mz_rl d_Office_level_30, mz_rl d_Office_level_31, mz_rl d_Office_level_34, mz_rl d_Office_level_35, mz_rl d_Office_level_36, mz_rl d_Office_level_37, mz_rl d_Office_level_38, j_Office_level_11, j_Office_level_15, j_Office_level_20, nF_0, eq_true hy, eq_true hx, eq_false hz, eq_false hz0, eq_false hz4]
          exact hr _ (if_neg (fun q => hz q.2.2))
    · refine mz_go [] 20 ?_
      simp only [mz_r0, ev_0, ev_1, ev_2, ev_3, ev_4, ev_5, ev_6, ev_7, ev_8, ev_9, ev_10, ev_11, ev_12, ev_13, ev_14, ev_15, ev_16, ev_17, ev_18, ev_19, ev_20, ev_21, ev_22, ev_23, ev_24, ev_25, ev_26, ev_27, ev_28, ev_29, ev_30, ev_31, ev_32, ev_33, ev_34, ev_35, ev_36, ev_37, ev_38, ev_39, ev_40, ev_41, ev_42, ev_43, ev_44, ev_45, ev_46, ev_47, ev_48, ev_49, ev_50, ev_51, ev_52, ev_53, ev_54, ev_55, ev_56, ev_57, ev_58, ev_59, ev_60, ev_61, ev_62, ev_63, ev_64, ev_65, ev_66, ev_67, ev_68, ev_69, ev_70, ev_71, ev_72, ev_73, ev_74, ev_75, ev_76, ev_77, ev_78, ev_79, ev_80, ev_81, ev_82, ev_83, mk_lit, mk_fin, mk_cat, mk_fit, mk_nar, mk_fld, mk_cls, mk_ty, mk_isr, List.mem_cons, List.not_mem_nil, or_false, or_true, false_or, true_or, Nat.reduceEqDiff, Nat.reduceAdd, Nat.reduceSub, Nat.reduceLT, Nat.reduceLeDiff, ↓reduceIte, if_true, if_false, List.getElem?_cons_zero, List.getElem?_cons_succ, List.set_cons_zero, List.set_cons_succ, List.length_cons, List.length_nil, mz_s1, mz_s2, mz_cl, true_and, and_true, false_and, and_false, List.append_nil, mk_b0, mk_b1, mk_b2, mk_bn, Value.int.injEq, Option.toList_some, Option.toList_none, List.cons_append, List.nil_append, Classical.not_not, Option.some.injEq, reduceCtorEq, ne_eq, not_true_eq_false, not_false_eq_true, false_implies, true_implies, mz_rl d_Office_level_11, mz_rl d_Office_level_14, mz_rl d_Office_level_15, mz_rl d_Office_level_18, mz_rl d_Office_level_19, mz_rl d_Office_level_20, mz_rl d_Office_level_23, mz_rl d_Office_level_24, mz_rl d_Office_level_25, mz_rl d_Office_level_26, mz_rl d_Office_level_29, mz_rl d_Office_level_30, mz_rl d_Office_level_31, mz_rl d_Office_level_34, mz_rl d_Office_level_35, mz_rl d_Office_level_36, mz_rl d_Office_level_37, mz_rl d_Office_level_38, j_Office_level_11, j_Office_level_15, j_Office_level_20, nF_0, eq_false hy, eq_true hx]
      exact hr _ (if_neg (fun q => hy q.2.1))
  · refine mz_go [] 20 ?_
    simp only [mz_r0, ev_0, ev_1, ev_2, ev_3, ev_4, ev_5, ev_6, ev_7, ev_8, ev_9, ev_10, ev_11, ev_12, ev_13, ev_14, ev_15, ev_16, ev_17, ev_18, ev_19, ev_20, ev_21, ev_22, ev_23, ev_24, ev_25, ev_26, ev_27, ev_28, ev_29, ev_30, ev_31, ev_32, ev_33, ev_34, ev_35, ev_36, ev_37, ev_38, ev_39, ev_40, ev_41, ev_42, ev_43, ev_44, ev_45, ev_46, ev_47, ev_48, ev_49, ev_50, ev_51, ev_52, ev_53, ev_54, ev_55, ev_56, ev_57, ev_58, ev_59, ev_60, ev_61, ev_62, ev_63, ev_64, ev_65, ev_66, ev_67, ev_68, ev_69, ev_70, ev_71, ev_72, ev_73, ev_74, ev_75, ev_76, ev_77, ev_78, ev_79, ev_80, ev_81, ev_82, ev_83, mk_lit, mk_fin, mk_cat, mk_fit, mk_nar, mk_fld, mk_cls, mk_ty, mk_isr, List.mem_cons, List.not_mem_nil, or_false, or_true, false_or, true_or, Nat.reduceEqDiff, Nat.reduceAdd, Nat.reduceSub, Nat.reduceLT, Nat.reduceLeDiff, ↓reduceIte, if_true, if_false, List.getElem?_cons_zero, List.getElem?_cons_succ, List.set_cons_zero, List.set_cons_succ, List.length_cons, List.length_nil, mz_s1, mz_s2, mz_cl, true_and, and_true, false_and, and_false, List.append_nil, mk_b0, mk_b1, mk_b2, mk_bn, Value.int.injEq, Option.toList_some, Option.toList_none, List.cons_append, List.nil_append, Classical.not_not, Option.some.injEq, reduceCtorEq, ne_eq, not_true_eq_false, not_false_eq_true, false_implies, true_implies, mz_rl d_Office_level_4, mz_rl d_Office_level_7, mz_rl d_Office_level_8, mz_rl d_Office_level_23, mz_rl d_Office_level_24, j_Office_level_4, nF_0, eq_false hx]
    exact hr _ (if_neg (fun q => hx q.1))
