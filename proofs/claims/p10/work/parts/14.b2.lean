/-! the reference's readings, told by the cards' signs -/
theorem zI_n' : ∀ c, c < 91 → zI (nI c) = nI (zn c) := by decide +kernel
theorem zI_n {c : Nat} (h : sg c) : zI (nI c) = nI (zn c) := zI_n' c (sg_lt h)
theorem dI_n' : ∀ c, c < 91 → (c = 32 ∨ 48 ≤ c) → dI (nI c) + nI 1 = nI (dp c) := by decide +kernel
theorem dI_n {c : Nat} (h : sg c) : dI (nI c) + nI 1 = nI (dp c) := dI_n' c (sg_lt h) (by unfold sg at h; omega)
theorem kI_n {g : Nat → Int32} {s : Nat → Nat → Nat} {x j : Nat} (h : sg (s x j) ∧ g (16 * x + j) = nI (s x j)) (z : Bool) : kI g z x j = nI (pk s j z x) := by
  unfold kI pk
  rw [h.2]
  cases z
  · exact dI_n h.1
  · exact zI_n h.1
theorem rkI_n' : ∀ c, c < 91 → (c = 32 ∨ 48 ≤ c) → rkI (nI c) = nI (16 * zn c + dp c) := by decide +kernel
theorem rkI_n {c : Nat} (h : sg c) : rkI (nI c) = nI (16 * zn c + dp c) := rkI_n' c (sg_lt h) (by unfold sg at h; omega)
theorem sb64 : ∀ a, a < 64 → ∀ b, b < 64 → ((nI a - nI b ≤ 0 ↔ a ≤ b) ∧ (nI a - nI b = 0 ↔ a = b)) := by decide +kernel
theorem rkI_o {c d : Nat} (hc : sg c) (hd : sg d) : (rkI (nI c) - rkI (nI d) ≤ 0 ↔ rk c ≤ rk d) ∧ (rkI (nI c) - rkI (nI d) = 0 ↔ rk c = rk d) := by
  have z1 := zn_lt c
  have z2 := zn_lt d
  have p1 := dp_lt hc
  have p2 := dp_lt hd
  have w := sb64 (16 * zn c + dp c) (by omega) (16 * zn d + dp d) (by omega)
  rw [rkI_n hc, rkI_n hd]
  unfold rk
  exact ⟨w.1.trans (by omega), w.2.trans (by omega)⟩
theorem cmI_key {g : Nat → Int32} {s : Nat → Nat → Nat} {x y : Nat} (hx : ∀ j, j < 16 → sg (s x j) ∧ g (16 * x + j) = nI (s x j)) (hy : ∀ j, j < 16 → sg (s y j) ∧ g (16 * y + j) = nI (s y j)) : ∀ m k, k + m ≤ 16 → (cmI g x y k m ≤ 0 ↔ keyF (s x) k m ≤ keyF (s y) k m) ∧ (cmI g x y k m = 0 ↔ keyF (s x) k m = keyF (s y) k m) := by
  intro m
  induction m with
  | zero => intro k _; exact ⟨⟨fun _ => Nat.le_refl _, fun _ => show nI 0 ≤ (0 : Int32) by decide⟩, ⟨fun _ => rfl, fun _ => show nI 0 = (0 : Int32) by decide⟩⟩
  | succ m ih =>
    intro k hk
    have q := ih (k + 1) (by omega)
    obtain ⟨x1, x2⟩ := hx k (by omega)
    obtain ⟨y1, y2⟩ := hy k (by omega)
    have lx := sg_lt x1
    have ly := sg_lt y1
    unfold cmI keyF
    rw [x2, y2]
    by_cases e : s x k = s y k
    · rw [if_pos (by rw [e]), e]
      exact ⟨⟨fun z => by have := q.1.mp z; omega, fun z => q.1.mpr (by omega)⟩, ⟨fun z => by have := q.2.mp z; omega, fun z => q.2.mpr (by omega)⟩⟩
    · rw [if_neg (fun z => e ((nI_eq (by omega) (by omega)).mp z))]
      have w := rkI_o x1 y1
      have b1 := keyF_lt (fun j hj => (hx j hj).1) m (k + 1) (by omega)
      have b2 := keyF_lt (fun j hj => (hy j hj).1) m (k + 1) (by omega)
      have ne : rk (s x k) ≠ rk (s y k) := fun z => e (rk_inj x1 y1 z)
      refine ⟨⟨fun z => ?_, fun z => w.1.mpr ?_⟩, ⟨fun z => absurd (w.2.mp z) ne, fun z => ?_⟩⟩
      · have := lx_lt (y := keyF (s y) (k + 1) m) b1 (show rk (s x k) < rk (s y k) by have := w.1.mp z; omega)
        omega
      · rcases Nat.lt_or_ge (rk (s y k)) (rk (s x k)) with y9 | y9
        · have := lx_lt (y := keyF (s x) (k + 1) m) b2 y9
          omega
        · exact y9
      · exfalso
        rcases Nat.lt_or_ge (rk (s x k)) (rk (s y k)) with y9 | y9
        · have := lx_lt (y := keyF (s y) (k + 1) m) b1 y9
          omega
        · have := lx_lt (y := keyF (s x) (k + 1) m) b2 (show rk (s y k) < rk (s x k) by omega)
          omega
theorem siI_iff {g : Nat → Int32} {s : Nat → Nat → Nat} {K fr to : Nat} {c : Nat → Nat} (hg : ∀ x j, x < K → j < 16 → sg (s x j) ∧ g (16 * x + j) = nI (s x j)) (hf : fr ≤ to) (ht : to < 16) : ∀ N, (∀ j, j < N → c j < K) → (siI g c fr to N = true ↔ ∀ j, 1 ≤ j → j < N → keyC s fr to (c (j - 1)) ≤ keyC s fr to (c j)) := by
  intro N
  induction N with
  | zero => intro _; exact ⟨fun _ j _ h => absurd h (Nat.not_lt_zero _), fun _ => rfl⟩
  | succ N ih =>
    intro hc
    have q := ih (fun j hj => hc j (by omega))
    unfold siI
    rw [Bool.and_eq_true, q, Bool.or_eq_true, decide_eq_true_eq, decide_eq_true_eq]
    by_cases h0 : N = 0
    · refine ⟨fun _ j h1 h2 => absurd h2 (by omega), fun _ => ⟨fun j h1 h2 => absurd h2 (by omega), Or.inl h0⟩⟩
    · have w := (cmI_key (x := c (N - 1)) (y := c N) (hg _ · (hc _ (by omega))) (hg _ · (hc _ (by omega))) (to + 1 - fr) fr (by omega)).1
      refine ⟨fun ⟨z1, z2⟩ j h1 h2 => ?_, fun z => ⟨fun j h1 h2 => z j h1 (by omega), Or.inr (w.mpr (z N (by omega) (by omega)))⟩⟩
      by_cases e : j = N
      · subst e
        rcases z2 with z2 | z2
        · exact absurd z2 h0
        · exact w.mp z2
      · exact z1 j h1 (by omega)
theorem siI_srt {g : Nat → Int32} {s : Nat → Nat → Nat} {K fr to : Nat} {c : Nat → Nat} (hg : ∀ x j, x < K → j < 16 → sg (s x j) ∧ g (16 * x + j) = nI (s x j)) (hf : fr ≤ to) (ht : to < 16) {N : Nat} (hc : ∀ j, j < N → c j < K) : siI g c fr to N = srtB s fr to c 1 (N - 1) := by
  have w : siI g c fr to N = true ↔ srtB s fr to c 1 (N - 1) = true := by
    rw [siI_iff hg hf ht N hc]
    by_cases h0 : N = 0
    · subst h0; exact ⟨fun _ => rfl, fun _ j h1 h2 => absurd h2 (by omega)⟩
    · rw [srtB_iff (K := K) hf ht (N - 1) 1 (Nat.le_refl _) (fun j hj k hk => (hg _ k (hc j (by omega)) hk).1)]
      exact ⟨fun z j h1 h2 => z j h1 (by omega), fun z j h1 h2 => z j h1 (by omega)⟩
  cases h1 : siI g c fr to N <;> cases h2 : srtB s fr to c 1 (N - 1) <;> simp_all
/-- one of the first k cards has the key of card x -/
def hkN (s : Nat → Nat → Nat) (fr to : Nat) (c : Nat → Nat) (x : Nat) : Nat → Bool
  | 0 => false
  | k + 1 => hkN s fr to c x k || decide (keyC s fr to (c k) = keyC s fr to x)
theorem hkN_iff {s : Nat → Nat → Nat} {fr to : Nat} {c : Nat → Nat} {x : Nat} : ∀ N, hkN s fr to c x N = true ↔ ∃ i, i < N ∧ keyC s fr to (c i) = keyC s fr to x := by
  intro N
  induction N with
  | zero => exact ⟨fun z => (by cases z), fun ⟨i, h, _⟩ => absurd h (Nat.not_lt_zero _)⟩
  | succ N ih =>
    unfold hkN
    rw [Bool.or_eq_true, ih, decide_eq_true_eq]
    constructor
    · rintro (⟨i, hi, e⟩ | e)
      · exact ⟨i, by omega, e⟩
      · exact ⟨N, by omega, e⟩
    · rintro ⟨i, hi, e⟩
      by_cases h : i = N
      · subst h; exact Or.inr e
      · exact Or.inl ⟨i, by omega, e⟩
theorem hkI_n {g : Nat → Int32} {s : Nat → Nat → Nat} {K fr to x : Nat} {c : Nat → Nat} (hg : ∀ x j, x < K → j < 16 → sg (s x j) ∧ g (16 * x + j) = nI (s x j)) (hx : x < K) (hf : fr ≤ to) (ht : to < 16) : ∀ N, (∀ j, j < N → c j < K) → hkI g c x fr to N = hkN s fr to c x N := by
  intro N
  induction N with
  | zero => intro _; rfl
  | succ N ih =>
    intro hc
    have w := (cmI_key (x := c N) (y := x) (hg _ · (hc _ (by omega))) (hg _ · hx) (to + 1 - fr) fr (by omega)).2
    unfold hkI hkN
    rw [ih (fun j hj => hc j (by omega))]
    congr 1
    exact decide_eq_decide.mpr w
def oI (o : Option Nat) : Int32 := match o with
  | some x => nI x
  | none => -1
theorem ndI_n' : ∀ c, c < 91 → (c = 32 ∨ 48 ≤ c ∧ c ≤ 57 ∨ 65 ≤ c) → ndI (nI c) = if zn c = 0 then nI (dgz c) else -1 := by decide +kernel
theorem ndI_n {c : Nat} (h : sg c) : ndI (nI c) = if zn c = 0 then nI (dgz c) else -1 := ndI_n' c (sg_lt h) (by unfold sg at h; omega)
theorem nmI_m1 {g : Nat → Int32} {x : Nat} : ∀ m k, nmI g x k m (-1) = -1 := by
  intro m
  induction m with
  | zero => intro k; rfl
  | succ m ih =>
    intro k
    unfold nmI
    have : nmS (-1) (ndI (g (16 * x + k))) = -1 := if_pos (by decide)
    rw [this]
    exact ih (k + 1)
theorem nmI_n {g : Nat → Int32} {s : Nat → Nat} {x : Nat} (hx : ∀ j, j < 16 → sg (s j) ∧ g (16 * x + j) = nI (s j)) : ∀ m k acc, k + m ≤ 16 → (acc + 1) * 10 ^ m < 2 ^ 31 → nmI g x k m (nI acc) = oI (numN s k m acc) := by
  intro m
  induction m with
  | zero => intro k acc _ _; rfl
  | succ m ih =>
    intro k acc hk hb
    obtain ⟨x1, x2⟩ := hx k (by omega)
    have hp : 0 < 10 ^ m := Nat.pos_of_ne_zero (by simp)
    have hb2 : (acc + 1) * 10 * 10 ^ m < 2 ^ 31 := by rw [Nat.mul_assoc, Nat.mul_comm 10, ← Nat.pow_succ]; exact hb
    have hb3 : (acc + 1) * 10 ≤ (acc + 1) * 10 * 10 ^ m := Nat.le_mul_of_pos_right _ hp
    unfold nmI numN
    rw [x2, ndI_n x1]
    have nn : ∀ d, d < 2 ^ 31 → ¬ nI d < (0 : Int32) := fun d hd => by
      show ¬ nI d < nI 0
      rw [nI_ltI hd (by decide)]; omega
    by_cases hz : zn (s k) = 0
    · rw [if_pos hz, if_pos hz]
      have hd := dgz_lt x1 hz
      have e : nmS (nI acc) (nI (dgz (s k))) = nI (acc * 10 + dgz (s k)) := by
        unfold nmS
        rw [if_neg (nn acc (by omega)), if_neg (nn _ (by omega)), pk_mul, nI_add, Nat.mul_comm]
      rw [e]
      refine ih (k + 1) _ (by omega) ?_
      have : (acc * 10 + dgz (s k) + 1) * 10 ^ m ≤ (acc + 1) * 10 * 10 ^ m := Nat.mul_le_mul_right _ (by omega)
      omega
    · rw [if_neg hz, if_neg hz]
      have e : nmS (nI acc) (-1) = -1 := by
        unfold nmS
        rw [if_neg (nn acc (by omega)), if_pos (by decide)]
      rw [e, nmI_m1]
      rfl
theorem bgI_n {g v : Nat → Int32} {s : Nat → Nat → Nat} {x q y : Nat} (hx : ∀ j, j < 16 → sg (s x j) ∧ g (16 * x + j) = nI (s x j)) (hy : okF y) (hv : v q = nI y) {F : Nat → Nat} {k : Nat} (hF : F k = y) : bgI g v q x = if F k < 32 then nI (sgF F (s x) k) else -1 := by
  have hy2 := okF_lt hy
  unfold bgI sgF
  rw [hv, hF, nI_clamp (show y < 2 ^ 31 by omega)]
  by_cases h16 : y < 16
  · rw [if_pos ((nI_ltI (show y < 2 ^ 31 by omega) (by decide)).mpr h16), if_pos (show y < 32 by omega), if_pos h16]
    exact (hx y h16).2
  · rw [if_neg (fun z => h16 ((nI_ltI (show y < 2 ^ 31 by omega) (by decide)).mp z)), if_neg h16]
    unfold okF at hy
    by_cases h26 : y < 26
    · rw [if_pos ((nI_ltI (show y < 2 ^ 31 by omega) (by decide)).mpr h26), if_pos (show y < 32 by omega), nI_add]
      congr 1; omega
    · rw [if_neg (fun z => h26 ((nI_ltI (show y < 2 ^ 31 by omega) (by decide)).mp z)), if_neg (show ¬ y < 32 by omega)]
theorem arI_n {g v w : Nat → Int32} {s : Nat → Nat → Nat} {x b t W : Nat} {F T L : Nat → Nat} (hx : ∀ j, j < 16 → sg (s x j) ∧ g (16 * x + j) = nI (s x j)) (hok : BdOk W F T L) (hv : ∀ k, k < W → v (40 * b + k) = nI (F k) ∧ w (40 * b + k) = nI (T k)) (ht : t < 2 ^ 31) : ∀ k, k ≤ W → arI g v w b (nI t) x k = arN F T (s x) t k := by
  intro k
  induction k with
  | zero => intro _; rfl
  | succ k ih =>
    intro hk
    obtain ⟨o1, o2⟩ := hok.2.1 k (by omega)
    obtain ⟨e1, e2⟩ := hv k (by omega)
    have hT : T k < 2 ^ 31 := by unfold okT at o2; omega
    unfold arI arN
    rw [ih (by omega), e2, bgI_n hx o1 e1 rfl]
    have am : ∀ z : Int32, arS z (-1) = z := fun z => if_pos (by decide)
    by_cases h1 : T k = t
    · rw [if_pos (by rw [h1])]
      by_cases h2 : F k < 32
      · rw [if_pos h2, if_pos ⟨h2, h1⟩]
      · rw [if_neg h2, if_neg (fun z => h2 z.1), am]
    · rw [if_neg (fun z => h1 ((nI_eq hT ht).mp z)), if_neg (fun z => h1 z.2), am]
/-- the same, as contracts -/
theorem MP_sg {cD sD : Nat → Nat → Nat} {f : mz_H} {K ln x j : Nat} {S W : Nat → Nat} (h : MP f K ln S W cD sD) (hx : x < K) (hj : j < 16) : sg (sD x j) := by
  obtain ⟨g, e159, hsg⟩ := h.2.2.2.1
  exact (hsg x j hx hj).1
theorem MX_v {f : mz_H} {B : bS} (hM : MX f B) : ∃ v w, f 164 = aB 160 v ∧ f 165 = aB 160 w ∧ ∀ b, b < 4 → ∀ k, k < B.1 b → v (40 * b + k) = nI (B.2.1 b k) ∧ w (40 * b + k) = nI (B.2.2.1 b k) := by
  obtain ⟨m1, gf, gt, gl, m2, m3, m4, m5⟩ := hM
  exact ⟨gf, gt, m2, m3, fun b hb => (m5 b hb).1⟩
theorem c_Model_atX {cD sD : Nat → Nat → Nat} (G : mz_G) (n : Nat) (f : mz_H) {K ln x j : Nat} {S W : Nat → Nat} (h : MP f K ln S W cD sD) (hx : x < K) (hj : j < 16) : mz_Ct G mk_P y_Model_at b_Model_at 3 (some .int) (r_Model_at 0 0) [.ref 158, .int (nI x), .int (nI j)] n f (fun v n' f' => v = some (.int (nI (sD x j))) ∧ n' = n ∧ f' = f) := by
  obtain ⟨t, p, b, u, a, e158⟩ := h.1.1
  obtain ⟨g, e159, hsg⟩ := h.2.2.2.1
  have hK := h.1.2.1
  have := c_Model_at G n f e158 e159 (show x < 200 by omega) hj
  rw [(hsg x j hx hj).2] at this
  exact this
theorem c_Model_keyOfX {cD sD : Nat → Nat → Nat} (G : mz_G) (n : Nat) (f : mz_H) {K ln x j : Nat} {S W : Nat → Nat} (h : MP f K ln S W cD sD) (hx : x < K) (hj : j < 16) (z : Bool) : mz_Ct G mk_P y_Model_keyOf b_Model_keyOf 4 (some .int) (r_Model_keyOf 0 0) [.ref 158, .int (nI x), .int (nI j), .int (mk_b (z = true))] n f (fun v n' f' => v = some (.int (nI (pk sD j z x))) ∧ n' = n ∧ f' = f) := by
  obtain ⟨t, p, b, u, a, e158⟩ := h.1.1
  obtain ⟨g, e159, hsg⟩ := h.2.2.2.1
  have hK := h.1.2.1
  have := c_Model_keyOf G n f e158 e159 (show x < 200 by omega) hj z
  rw [kI_n (hsg x j hx hj) z] at this
  exact this
theorem c_Model_compareX {cD sD : Nat → Nat → Nat} (G : mz_G) (n : Nat) (f : mz_H) {K ln x y fr to : Nat} {S W : Nat → Nat} (h : MP f K ln S W cD sD) (hx : x < K) (hy : y < K) (hf : fr ≤ to) (ht : to < 16) : mz_Ct G mk_P y_Model_compare b_Model_compare 6 (some .int) (r_Model_compare 0 0) [.ref 158, .int (nI x), .int (nI y), .int (nI fr), .int (nI to)] n f (fun v' n' f' => (∃ r : Int32, v' = some (.int r) ∧ (r ≤ 0 ↔ keyC sD fr to x ≤ keyC sD fr to y) ∧ (r = 0 ↔ keyC sD fr to x = keyC sD fr to y)) ∧ n' = n ∧ f' = f) := by
  obtain ⟨g, e159, hsg⟩ := h.2.2.2.1
  have hK := h.1.2.1
  have w := cmI_key (g := g) (s := sD) (hsg x · hx) (hsg y · hy) (to + 1 - fr) fr (by omega)
  intro ad sz hwf hok
  refine mz_Mono (c_Model_compare G n f h e159 (show x < 200 by omega) (show y < 200 by omega) hf ht ad sz hwf hok) ?_
  rintro v n' f' ⟨rfl, h1, h2⟩
  exact ⟨⟨_, rfl, w⟩, h1, h2⟩
theorem c_Model_isSortedX {cD sD : Nat → Nat → Nat} (G : mz_G) (n : Nat) (f : mz_H) {K ln d fr to : Nat} {S W : Nat → Nat} (h : MP f K ln S W cD sD) (hd : d < 8) (hf : fr ≤ to) (ht : to < 16) : mz_Ct G mk_P y_Model_isSorted b_Model_isSorted 6 (some .boolean) (r_Model_isSorted 0 0) [.ref 158, .int (nI d), .int (nI fr), .int (nI to)] n f (fun v' n' f' => v' = some (.int (mk_b (srtB sD fr to (cD d) 1 (S d - 1) = true))) ∧ n' = n ∧ f' = f) := by
  obtain ⟨g, e159, hsg⟩ := h.2.2.2.1
  obtain ⟨e, e160, he⟩ := h.2.1.2.2
  have := c_Model_isSorted G n f (c := cD d) h e159 e160 (fun i hi => he d i hd hi) hd hf ht
  rw [siI_srt hsg hf ht (fun j hj => (he d j hd hj).1)] at this
  exact this
theorem c_Model_hasKeyX {cD sD : Nat → Nat → Nat} (G : mz_G) (n : Nat) (f : mz_H) {K ln d x fr to : Nat} {S W : Nat → Nat} (h : MP f K ln S W cD sD) (hd : d < 8) (hx : x < K) (hf : fr ≤ to) (ht : to < 16) : mz_Ct G mk_P y_Model_hasKey b_Model_hasKey 7 (some .boolean) (r_Model_hasKey 0 0) [.ref 158, .int (nI d), .int (nI x), .int (nI fr), .int (nI to)] n f (fun v' n' f' => v' = some (.int (mk_b (hkN sD fr to (cD d) x (S d) = true))) ∧ n' = n ∧ f' = f) := by
  obtain ⟨g, e159, hsg⟩ := h.2.2.2.1
  obtain ⟨e, e160, he⟩ := h.2.1.2.2
  have hK := h.1.2.1
  have := c_Model_hasKey G n f (c := cD d) h e159 e160 (fun i hi => he d i hd hi) hd (show x < 200 by omega) hf ht
  rw [hkI_n hsg hx hf ht (S d) (fun j hj => (he d j hd hj).1)] at this
  exact this
theorem c_Model_numberOfX {cD sD : Nat → Nat → Nat} (G : mz_G) (n : Nat) (f : mz_H) {K ln x y : Nat} {S W : Nat → Nat} (h : MP f K ln S W cD sD) (hx : x < K) (hy : facOk y) : mz_Ct G mk_P y_Model_numberOf b_Model_numberOf 7 (some .int) (r_Model_numberOf 0 0) [.ref 158, .int (nI x), .int (nI y)] n f (fun v' n' f' => v' = some (.int (oI (numN (sD x) (y % 16) (y / 16 + 1) 0))) ∧ n' = n ∧ f' = f) := by
  obtain ⟨g, e159, hsg⟩ := h.2.2.2.1
  have hK := h.1.2.1
  have := c_Model_numberOf G n f h e159 (show x < 200 by omega) hy
  have hp : 10 ^ (y / 16 + 1) ≤ 10 ^ 6 := Nat.pow_le_pow_right (by decide) (by have := hy.1; omega)
  rw [nmI_n (hsg x · hx) (y / 16 + 1) (y % 16) 0 hy.2 (by omega)] at this
  exact this
theorem c_Model_bringsX {cD sD : Nat → Nat → Nat} (G : mz_G) (n : Nat) (f : mz_H) {K ln b k x : Nat} {S : Nat → Nat} {B : bS} (h : MP f K ln S B.1 cD sD) (hM : MX f B) (hk : bOk B) (hb : b < 4) (hkb : k < B.1 b) (hx : x < K) : mz_Ct G mk_P y_Model_brings b_Model_brings 4 (some .int) (r_Model_brings 0 0) [.ref 158, .int (nI (40 * b + k)), .int (nI x)] n f (fun v' n' f' => v' = some (.int (if B.2.1 b k < 32 then nI (sgF (B.2.1 b) (sD x) k) else -1)) ∧ n' = n ∧ f' = f) := by
  obtain ⟨g, e159, hsg⟩ := h.2.2.2.1
  obtain ⟨m1, gf, gt, gl, m2, m3, m4, m5⟩ := hM
  have hK := h.1.2.1
  have := c_Model_brings G n f h e159 m2 hb hkb (show x < 200 by omega)
  rw [bgI_n (F := B.2.1 b) (k := k) (hsg x · hx) ((hk b hb).2.1 k hkb).1 ((m5 b hb).1 k hkb).1 rfl] at this
  exact this
theorem c_Model_arrivesX {cD sD : Nat → Nat → Nat} (G : mz_G) (n : Nat) (f : mz_H) {K ln b x t : Nat} {S : Nat → Nat} {B : bS} (h : MP f K ln S B.1 cD sD) (hM : MX f B) (hk : bOk B) (hb : b < 4) (ht : t < 2 ^ 31) (hx : x < K) : mz_Ct G mk_P y_Model_arrives b_Model_arrives 7 (some .int) (r_Model_arrives 0 0) [.ref 158, .int (nI b), .int (nI t), .int (nI x)] n f (fun v' n' f' => v' = some (.int (arN (B.2.1 b) (B.2.2.1 b) (sD x) t (B.1 b))) ∧ n' = n ∧ f' = f) := by
  obtain ⟨g, e159, hsg⟩ := h.2.2.2.1
  obtain ⟨m1, gf, gt, gl, m2, m3, m4, m5⟩ := hM
  have hK := h.1.2.1
  have := c_Model_arrives G n f (nI t) h e159 m2 m3 hb (show x < 200 by omega)
  rw [arI_n (hsg x · hx) (hk b hb) (fun k hkb => (m5 b hb).1 k hkb) ht (B.1 b) (Nat.le_refl _)] at this
  exact this
/-- the same, of any card, for the tabulator -/
theorem c_Model_arrivesW {cD sD : Nat → Nat → Nat} (G : mz_G) (n : Nat) (f : mz_H) {K ln b x : Nat} {S W : Nat → Nat} (to : Int32) (h : MP f K ln S W cD sD) (hb : b < 4) (hx : x < 200) : mz_Ct G mk_P y_Model_arrives b_Model_arrives 7 (some .int) (r_Model_arrives 0 0) [.ref 158, .int (nI b), .int to, .int (nI x)] n f (fun v n' f' => (∃ r, v = some (.int r)) ∧ n' = n ∧ f' = f) := by
  obtain ⟨g, e159, hsg⟩ := h.2.2.2.1
  obtain ⟨gf, gt, e164, e165, hw⟩ := h.2.2.1.2.2
  intro ad sz hwf hok
  refine mz_Mono (c_Model_arrives G n f to h e159 e164 e165 hb hx ad sz hwf hok) ?_
  rintro v n' f' ⟨rfl, h1, h2⟩
  exact ⟨⟨_, rfl⟩, h1, h2⟩
