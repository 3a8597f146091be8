/-- what an instruction asks, and where it leads: calls, new cells, switches and throws aside -/
def mz_S (X : mz_E) (cn : Nat) (ini : Bool) (nL : Nat) (ret : Option FieldType) (ins : Jvm.ClassFile.Instr) (len pc : Nat) (l : mz_L) (st : List Value) (f : mz_H) (K : Nat → mz_L → List Value → mz_H → Prop) (P : Option Value → Prop) : Prop :=
  match ins with
  | .iconst i => len = 1 ∧ K (pc + 1) (l) (.int (Int32.ofInt i) :: st) (f)
  | .bipush i => len = 2 ∧ K (pc + 2) (l) (.int (Int8.ofInt i).toInt32 :: st) (f)
  | .sipush i => len = 3 ∧ K (pc + 3) (l) (.int (Int16.ofInt i).toInt32 :: st) (f)
  | .lconst i => len = 1 ∧ K (pc + 1) (l) (.long (Int64.ofNat (i : Nat)) :: st) (f)
  | .aconst_null => len = 1 ∧ K (pc + 1) (l) (.null :: st) (f)
  | .iadd => len = 1 ∧ (match st with
      | .int y :: .int x :: r => K (pc + 1) (l) (.int (x + y) :: r) (f)
      | _ => False)
  | .isub => len = 1 ∧ (match st with
      | .int y :: .int x :: r => K (pc + 1) (l) (.int (x - y) :: r) (f)
      | _ => False)
  | .imul => len = 1 ∧ (match st with
      | .int y :: .int x :: r => K (pc + 1) (l) (.int (x * y) :: r) (f)
      | _ => False)
  | .iand => len = 1 ∧ (match st with
      | .int y :: .int x :: r => K (pc + 1) (l) (.int (x &&& y) :: r) (f)
      | _ => False)
  | .ior => len = 1 ∧ (match st with
      | .int y :: .int x :: r => K (pc + 1) (l) (.int (x ||| y) :: r) (f)
      | _ => False)
  | .ixor => len = 1 ∧ (match st with
      | .int y :: .int x :: r => K (pc + 1) (l) (.int (x ^^^ y) :: r) (f)
      | _ => False)
  | .ishl => len = 1 ∧ (match st with
      | .int y :: .int x :: r => K (pc + 1) (l) (.int (x <<< (y &&& 31)) :: r) (f)
      | _ => False)
  | .ishr => len = 1 ∧ (match st with
      | .int y :: .int x :: r => K (pc + 1) (l) (.int (x >>> (y &&& 31)) :: r) (f)
      | _ => False)
  | .idiv => len = 1 ∧ (match st with
      | .int y :: .int x :: r => (¬ y = 0) ∧ K (pc + 1) (l) (.int (x / y) :: r) (f)
      | _ => False)
  | .irem => len = 1 ∧ (match st with
      | .int y :: .int x :: r => (¬ y = 0) ∧ K (pc + 1) (l) (.int (x - x / y * y) :: r) (f)
      | _ => False)
  | .ladd => len = 1 ∧ (match st with
      | .long y :: .long x :: r => K (pc + 1) (l) (.long (x + y) :: r) (f)
      | _ => False)
  | .lsub => len = 1 ∧ (match st with
      | .long y :: .long x :: r => K (pc + 1) (l) (.long (x - y) :: r) (f)
      | _ => False)
  | .lmul => len = 1 ∧ (match st with
      | .long y :: .long x :: r => K (pc + 1) (l) (.long (x * y) :: r) (f)
      | _ => False)
  | .land => len = 1 ∧ (match st with
      | .long y :: .long x :: r => K (pc + 1) (l) (.long (x &&& y) :: r) (f)
      | _ => False)
  | .lor => len = 1 ∧ (match st with
      | .long y :: .long x :: r => K (pc + 1) (l) (.long (x ||| y) :: r) (f)
      | _ => False)
  | .lxor => len = 1 ∧ (match st with
      | .long y :: .long x :: r => K (pc + 1) (l) (.long (x ^^^ y) :: r) (f)
      | _ => False)
  | .ldiv => len = 1 ∧ (match st with
      | .long y :: .long x :: r => (¬ y = 0) ∧ K (pc + 1) (l) (.long (x / y) :: r) (f)
      | _ => False)
  | .lrem => len = 1 ∧ (match st with
      | .long y :: .long x :: r => (¬ y = 0) ∧ K (pc + 1) (l) (.long (x - x / y * y) :: r) (f)
      | _ => False)
  | .lcmp => len = 1 ∧ (match st with
      | .long y :: .long x :: r => K (pc + 1) (l) (.int (lg_cmp x y) :: r) (f)
      | _ => False)
  | .lshl => len = 1 ∧ (match st with
      | .int y :: .long x :: r => K (pc + 1) (l) (.long (x <<< (y.toInt64 &&& 63)) :: r) (f)
      | _ => False)
  | .lshr => len = 1 ∧ (match st with
      | .int y :: .long x :: r => K (pc + 1) (l) (.long (x >>> (y.toInt64 &&& 63)) :: r) (f)
      | _ => False)
  | .lushr => len = 1 ∧ (match st with
      | .int y :: .long x :: r => K (pc + 1) (l) (.long (x.toUInt64 >>> (y.toInt64.toUInt64 &&& Int64.toUInt64 63)).toInt64 :: r) (f)
      | _ => False)
  | .ineg => len = 1 ∧ (match st with
      | .int x :: r => K (pc + 1) (l) (.int (-x) :: r) (f)
      | _ => False)
  | .i2l => len = 1 ∧ (match st with
      | .int x :: r => K (pc + 1) (l) (.long x.toInt64 :: r) (f)
      | _ => False)
  | .l2i => len = 1 ∧ (match st with
      | .long x :: r => K (pc + 1) (l) (.int x.toInt32 :: r) (f)
      | _ => False)
  | .i2b => len = 1 ∧ (match st with
      | .int x :: r => K (pc + 1) (l) (.int x.toInt8.toInt32 :: r) (f)
      | _ => False)
  | .i2s => len = 1 ∧ (match st with
      | .int x :: r => K (pc + 1) (l) (.int x.toInt16.toInt32 :: r) (f)
      | _ => False)
  | .dup => len = 1 ∧ (match st with
      | v :: r => v.category = 1 ∧ K (pc + 1) (l) (v :: v :: r) (f)
      | _ => False)
  | .pop => len = 1 ∧ (match st with
      | v :: r => v.category = 1 ∧ K (pc + 1) (l) (r) (f)
      | _ => False)
  | .dup_x1 => len = 1 ∧ (match st with
      | v :: w :: r => v.category = 1 ∧ w.category = 1 ∧ K (pc + 1) (l) (v :: w :: v :: r) (f)
      | _ => False)
  | .dup2 => len = 1 ∧ (match st with
      | v :: w :: r => v.category = 1 ∧ w.category = 1 ∧ K (pc + 1) (l) (v :: w :: v :: w :: r) (f)
      | _ => False)
  | .iload i => len = 2 ∧ (match l[i]? with
      | some (some (.int x)) => K (pc + 2) (l) (.int x :: st) (f)
      | _ => False)
  | .iload_n i => len = 1 ∧ (match l[i.val]? with
      | some (some (.int x)) => K (pc + 1) (l) (.int x :: st) (f)
      | _ => False)
  | .lload i => len = 2 ∧ (match l[i]? with
      | some (some (.long x)) => K (pc + 2) (l) (.long x :: st) (f)
      | _ => False)
  | .lload_n i => len = 1 ∧ (match l[i.val]? with
      | some (some (.long x)) => K (pc + 1) (l) (.long x :: st) (f)
      | _ => False)
  | .aload i => len = 2 ∧ (match l[i]? with
      | some (some (.ref x)) => K (pc + 2) (l) (.ref x :: st) (f)
      | some (some .null) => K (pc + 2) (l) (.null :: st) (f)
      | _ => False)
  | .aload_n i => len = 1 ∧ (match l[i.val]? with
      | some (some (.ref x)) => K (pc + 1) (l) (.ref x :: st) (f)
      | some (some .null) => K (pc + 1) (l) (.null :: st) (f)
      | _ => False)
  | .istore i => len = 2 ∧ i < nL ∧ (match st with
      | .int x :: r => K (pc + 2) (mz_s1 l i (.int x)) (r) (f)
      | _ => False)
  | .istore_n i => len = 1 ∧ i.val < nL ∧ (match st with
      | .int x :: r => K (pc + 1) (mz_s1 l i.val (.int x)) (r) (f)
      | _ => False)
  | .lstore i => len = 2 ∧ i + 1 < nL ∧ (match st with
      | .long x :: r => K (pc + 2) (mz_s2 l i (.long x)) (r) (f)
      | _ => False)
  | .lstore_n i => len = 1 ∧ i.val + 1 < nL ∧ (match st with
      | .long x :: r => K (pc + 1) (mz_s2 l i.val (.long x)) (r) (f)
      | _ => False)
  | .astore i => len = 2 ∧ i < nL ∧ (match st with
      | .ref x :: r => K (pc + 2) (mz_s1 l i (.ref x)) (r) (f)
      | .null :: r => K (pc + 2) (mz_s1 l i .null) (r) (f)
      | _ => False)
  | .astore_n i => len = 1 ∧ i.val < nL ∧ (match st with
      | .ref x :: r => K (pc + 1) (mz_s1 l i.val (.ref x)) (r) (f)
      | .null :: r => K (pc + 1) (mz_s1 l i.val .null) (r) (f)
      | _ => False)
  | .iinc i d => len = 3 ∧ i < nL ∧ (match l[i]? with
      | some (some (.int x)) => K (pc + 3) (mz_s1 l i (.int (x + Int32.ofInt d))) (st) (f)
      | _ => False)
  | .ifCond .eq off => len = 3 ∧ 0 ≤ (pc : Int) + off ∧ (match st with
      | .int x :: r => (x = 0 → K (mz_t pc off) (l) (r) (f)) ∧ (¬ x = 0 → K (pc + 3) (l) (r) (f))
      | _ => False)
  | .if_icmp .eq off => len = 3 ∧ 0 ≤ (pc : Int) + off ∧ (match st with
      | .int y :: .int x :: r => (x = y → K (mz_t pc off) (l) (r) (f)) ∧ (¬ x = y → K (pc + 3) (l) (r) (f))
      | _ => False)
  | .ifCond .ne off => len = 3 ∧ 0 ≤ (pc : Int) + off ∧ (match st with
      | .int x :: r => (¬ x = 0 → K (mz_t pc off) (l) (r) (f)) ∧ (x = 0 → K (pc + 3) (l) (r) (f))
      | _ => False)
  | .if_icmp .ne off => len = 3 ∧ 0 ≤ (pc : Int) + off ∧ (match st with
      | .int y :: .int x :: r => (¬ x = y → K (mz_t pc off) (l) (r) (f)) ∧ (x = y → K (pc + 3) (l) (r) (f))
      | _ => False)
  | .ifCond .lt off => len = 3 ∧ 0 ≤ (pc : Int) + off ∧ (match st with
      | .int x :: r => (x < 0 → K (mz_t pc off) (l) (r) (f)) ∧ (¬ x < 0 → K (pc + 3) (l) (r) (f))
      | _ => False)
  | .if_icmp .lt off => len = 3 ∧ 0 ≤ (pc : Int) + off ∧ (match st with
      | .int y :: .int x :: r => (x < y → K (mz_t pc off) (l) (r) (f)) ∧ (¬ x < y → K (pc + 3) (l) (r) (f))
      | _ => False)
  | .ifCond .ge off => len = 3 ∧ 0 ≤ (pc : Int) + off ∧ (match st with
      | .int x :: r => (0 ≤ x → K (mz_t pc off) (l) (r) (f)) ∧ (¬ 0 ≤ x → K (pc + 3) (l) (r) (f))
      | _ => False)
  | .if_icmp .ge off => len = 3 ∧ 0 ≤ (pc : Int) + off ∧ (match st with
      | .int y :: .int x :: r => (y ≤ x → K (mz_t pc off) (l) (r) (f)) ∧ (¬ y ≤ x → K (pc + 3) (l) (r) (f))
      | _ => False)
  | .ifCond .gt off => len = 3 ∧ 0 ≤ (pc : Int) + off ∧ (match st with
      | .int x :: r => (0 < x → K (mz_t pc off) (l) (r) (f)) ∧ (¬ 0 < x → K (pc + 3) (l) (r) (f))
      | _ => False)
  | .if_icmp .gt off => len = 3 ∧ 0 ≤ (pc : Int) + off ∧ (match st with
      | .int y :: .int x :: r => (y < x → K (mz_t pc off) (l) (r) (f)) ∧ (¬ y < x → K (pc + 3) (l) (r) (f))
      | _ => False)
  | .ifCond .le off => len = 3 ∧ 0 ≤ (pc : Int) + off ∧ (match st with
      | .int x :: r => (x ≤ 0 → K (mz_t pc off) (l) (r) (f)) ∧ (¬ x ≤ 0 → K (pc + 3) (l) (r) (f))
      | _ => False)
  | .if_icmp .le off => len = 3 ∧ 0 ≤ (pc : Int) + off ∧ (match st with
      | .int y :: .int x :: r => (x ≤ y → K (mz_t pc off) (l) (r) (f)) ∧ (¬ x ≤ y → K (pc + 3) (l) (r) (f))
      | _ => False)
  | .goto off => len = 3 ∧ 0 ≤ (pc : Int) + off ∧ K (mz_t pc off) (l) (st) (f)
  | .ifnull off => len = 3 ∧ (match st with
      | .ref _ :: r => K (pc + 3) (l) (r) (f)
      | .null :: r => 0 ≤ (pc : Int) + off ∧ K (mz_t pc off) (l) (r) (f)
      | _ => False)
  | .ifnonnull off => len = 3 ∧ (match st with
      | .ref _ :: r => 0 ≤ (pc : Int) + off ∧ K (mz_t pc off) (l) (r) (f)
      | .null :: r => K (pc + 3) (l) (r) (f)
      | _ => False)
  | .ireturn => len = 1 ∧ (match st, ret with
      | [.int x], some ty => narrow ty (.int x) = .int x ∧ P (some (.int x))
      | _, _ => False)
  | .lreturn => len = 1 ∧ (match st, ret with
      | [.long x], some .long => P (some (.long x))
      | _, _ => False)
  | .areturn => len = 1 ∧ (match st, ret with
      | [.ref x], some (.object _) => P (some (.ref x))
      | [.null], some (.object _) => P (some .null)
      | _, _ => False)
  | .return_ => len = 1 ∧ (match st, ret with
      | [], none => P none
      | _, _ => False)
  | .iaload => len = 1 ∧ (match st with
      | .int i :: .ref a :: r => (match f a with
        | .inl (0, N, .inl g) => vp_in i N ∧ K (pc + 1) (l) (.int (g i.toNatClampNeg) :: r) (f)
        | .inr _ => (match X a with
          | some (N, g) => vp_in i N ∧ K (pc + 1) (l) (.int (g i.toNatClampNeg) :: r) (f)
          | none => False)
        | _ => False)
      | _ => False)
  | .baload => len = 1 ∧ (match st with
      | .int i :: .ref a :: r => (match f a with
        | .inl (1, N, .inl g) => vp_in i N ∧ K (pc + 1) (l) (.int (g i.toNatClampNeg) :: r) (f)
        | _ => False)
      | _ => False)
  | .saload => len = 1 ∧ (match st with
      | .int i :: .ref a :: r => (match f a with
        | .inl (2, N, .inl g) => vp_in i N ∧ K (pc + 1) (l) (.int (g i.toNatClampNeg) :: r) (f)
        | _ => False)
      | _ => False)
  | .laload => len = 1 ∧ (match st with
      | .int i :: .ref a :: r => (match f a with
        | .inl (3, N, .inr (.inl g)) => vp_in i N ∧ K (pc + 1) (l) (.long (g i.toNatClampNeg) :: r) (f)
        | _ => False)
      | _ => False)
  | .iastore => len = 1 ∧ (match st with
      | .int x :: .int i :: .ref a :: r => (match f a with
        | .inl (0, N, .inl g) => vp_in i N ∧ K (pc + 1) (l) (r) (mz_u f a (.inl (0, N, .inl (upd g i.toNatClampNeg x))))
        | _ => False)
      | _ => False)
  | .bastore => len = 1 ∧ (match st with
      | .int x :: .int i :: .ref a :: r => (match f a with
        | .inl (1, N, .inl g) => vp_in i N ∧ K (pc + 1) (l) (r) (mz_u f a (.inl (1, N, .inl (upd g i.toNatClampNeg (vp_nar .byte x)))))
        | _ => False)
      | _ => False)
  | .sastore => len = 1 ∧ (match st with
      | .int x :: .int i :: .ref a :: r => (match f a with
        | .inl (2, N, .inl g) => vp_in i N ∧ K (pc + 1) (l) (r) (mz_u f a (.inl (2, N, .inl (upd g i.toNatClampNeg (vp_nar .short x)))))
        | _ => False)
      | _ => False)
  | .lastore => len = 1 ∧ (match st with
      | .long x :: .int i :: .ref a :: r => (match f a with
        | .inl (3, N, .inr (.inl g)) => vp_in i N ∧ K (pc + 1) (l) (r) (mz_u f a (.inl (3, N, .inr (.inl (vp_updL g i.toNatClampNeg x)))))
        | _ => False)
      | _ => False)
  | .aaload => len = 1 ∧ (match st with
      | .int i :: .ref a :: r => (match f a with
        | .inl (t, N, .inr (.inr (.inr (.inr g)))) => vp_in i N ∧ (match nm_Ty[t]? with
          | some ty => ty.isReference = true ∧ K (pc + 1) (l) (va_rf (g i.toNatClampNeg) :: r) (f)
          | none => False)
        | _ => False)
      | _ => False)
  | .aastore => len = 1 ∧ (match st with
      | .ref b :: .int i :: .ref a :: r => (match f a with
        | .inl (t, N, .inr (.inr (.inr (.inr g)))) => vp_in i N ∧ (match f b with
          | .inr (ci, _) => (match nm_Cl[ci]? with
            | some cl => nm_Ty[t]? = some (.object cl.1) ∧ K (pc + 1) (l) (r) (mz_u f a (.inl (t, N, .inr (.inr (.inr (.inr (va_up g i.toNatClampNeg (some b))))))))
            | none => False)
          | _ => False)
        | _ => False)
      | _ => False)
  | .arraylength => len = 1 ∧ (match st with
      | .ref a :: r => (match f a with
        | .inl q => (match nm_Ty[q.1]? with
          | some _ => K (pc + 1) (l) (.int (Int32.ofNat q.2.1) :: r) (f)
          | none => False)
        | .inr _ => (match X a with
          | some (N, _) => K (pc + 1) (l) (.int (Int32.ofNat N) :: r) (f)
          | none => False))
      | _ => False)
  | .getfield idx => len = 3 ∧ (match st with
      | .ref a :: r => (match nm_Fld cn idx with
        | some (ci, k) => (match f a with
          | .inr (ci', fs) => ci' = ci ∧ (match fs[k]? with
            | some v => K (pc + 3) (l) (v :: r) (f)
            | none => False)
          | _ => False)
        | none => False)
      | _ => False)
  | .putfield idx => len = 3 ∧ (match st with
      | v :: .ref a :: r => (match nm_Fld cn idx with
        | some (ci, k) => (match f a with
          | .inr (ci', fs) => ci' = ci ∧ k < fs.length ∧ mz_fit (nm_FTy ci k) v ∧ (nm_Fin ci k = false ∨ nm_Fin ci k = true ∧ ini = true ∧ ci = cn ∧ nm_FldF cn idx = true) ∧ K (pc + 3) (l) (r) (mz_u f a (.inr (ci, fs.set k v)))
          | _ => False)
        | none => False)
      | _ => False)
  | .getstatic idx => len = 3 ∧ (match nm_Sta cn idx with
      | some a => X a ≠ none ∧ K (pc + 3) (l) (.ref a :: st) (f)
      | none => False)
  | .ldc idx => len = 2 ∧ (match nm_Con cn idx with
      | some v => K (pc + 2) (l) (.int v :: st) (f)
      | none => False)
  | .ldc2_w idx => len = 3 ∧ (match nm_ConL cn idx with
      | some v => K (pc + 3) (l) (.long v :: st) (f)
      | none => False)
  | _ => False
section MZ2
variable {G : mz_G} {X : mz_E} {cn : Nat} {ini : Bool} {cc : ByteArray} {nL : Nat} {ret : Option FieldType} {rm : Room} {post : Option Value → Nat → mz_H → Prop} {thr : String → Nat → mz_H → Prop} {pc : Nat} {l : mz_L} {st : List Value} {k1 k2 n : Nat} {f : mz_H}
set_option maxHeartbeats 4000000 in
theorem mz_step {ins : Jvm.ClassFile.Instr} {len : Nat} {K : Nat → mz_L → List Value → mz_H → Prop} {P : Option Value → Prop} (hd : decode cc pc = .ok (ins, len)) (hK : ∀ pc' l' st' f', K pc' l' st' f' → mz_X G X cn ini cc nL ret rm post thr pc' l' st' k1 k2 n f') (hP : ∀ v, P v → post v n f) (h : mz_S X cn ini nL ret ins len pc l st f K P) : mz_X G X cn ini cc nL ret rm post thr pc l st k1 k2 n f := by
  unfold mz_S at h
  split at h
  · obtain ⟨rfl, h⟩ := h
    exact mz_iconst hd (hK _ _ _ _ h)
  · obtain ⟨rfl, h⟩ := h
    exact mz_bipush hd (hK _ _ _ _ h)
  · obtain ⟨rfl, h⟩ := h
    exact mz_sipush hd (hK _ _ _ _ h)
  · obtain ⟨rfl, h⟩ := h
    exact mz_lconst hd (hK _ _ _ _ h)
  · obtain ⟨rfl, h⟩ := h
    exact mz_null hd (hK _ _ _ _ h)
  · obtain ⟨rfl, h⟩ := h
    split at h
    · exact mz_iadd hd (hK _ _ _ _ h)
    · exact h.elim
  · obtain ⟨rfl, h⟩ := h
    split at h
    · exact mz_isub hd (hK _ _ _ _ h)
    · exact h.elim
  · obtain ⟨rfl, h⟩ := h
    split at h
    · exact mz_imul hd (hK _ _ _ _ h)
    · exact h.elim
  · obtain ⟨rfl, h⟩ := h
    split at h
    · exact mz_iand hd (hK _ _ _ _ h)
    · exact h.elim
  · obtain ⟨rfl, h⟩ := h
    split at h
    · exact mz_ior hd (hK _ _ _ _ h)
    · exact h.elim
  · obtain ⟨rfl, h⟩ := h
    split at h
    · exact mz_ixor hd (hK _ _ _ _ h)
    · exact h.elim
  · obtain ⟨rfl, h⟩ := h
    split at h
    · exact mz_ishl hd (hK _ _ _ _ h)
    · exact h.elim
  · obtain ⟨rfl, h⟩ := h
    split at h
    · exact mz_ishr hd (hK _ _ _ _ h)
    · exact h.elim
  · obtain ⟨rfl, h⟩ := h
    split at h
    · exact mz_idiv hd h.1 (hK _ _ _ _ h.2)
    · exact h.elim
  · obtain ⟨rfl, h⟩ := h
    split at h
    · exact mz_irem hd h.1 (hK _ _ _ _ h.2)
    · exact h.elim
  · obtain ⟨rfl, h⟩ := h
    split at h
    · exact mz_ladd hd (hK _ _ _ _ h)
    · exact h.elim
  · obtain ⟨rfl, h⟩ := h
    split at h
    · exact mz_lsub hd (hK _ _ _ _ h)
    · exact h.elim
  · obtain ⟨rfl, h⟩ := h
    split at h
    · exact mz_lmul hd (hK _ _ _ _ h)
    · exact h.elim
  · obtain ⟨rfl, h⟩ := h
    split at h
    · exact mz_land hd (hK _ _ _ _ h)
    · exact h.elim
  · obtain ⟨rfl, h⟩ := h
    split at h
    · exact mz_lor hd (hK _ _ _ _ h)
    · exact h.elim
  · obtain ⟨rfl, h⟩ := h
    split at h
    · exact mz_lxor hd (hK _ _ _ _ h)
    · exact h.elim
  · obtain ⟨rfl, h⟩ := h
    split at h
    · exact mz_ldiv hd h.1 (hK _ _ _ _ h.2)
    · exact h.elim
  · obtain ⟨rfl, h⟩ := h
    split at h
    · exact mz_lrem hd h.1 (hK _ _ _ _ h.2)
    · exact h.elim
  · obtain ⟨rfl, h⟩ := h
    split at h
    · exact mz_lcmp hd (hK _ _ _ _ h)
    · exact h.elim
  · obtain ⟨rfl, h⟩ := h
    split at h
    · exact mz_lshl hd (hK _ _ _ _ h)
    · exact h.elim
  · obtain ⟨rfl, h⟩ := h
    split at h
    · exact mz_lshr hd (hK _ _ _ _ h)
    · exact h.elim
  · obtain ⟨rfl, h⟩ := h
    split at h
    · exact mz_lushr hd (hK _ _ _ _ h)
    · exact h.elim
  · obtain ⟨rfl, h⟩ := h
    split at h
    · exact mz_ineg hd (hK _ _ _ _ h)
    · exact h.elim
  · obtain ⟨rfl, h⟩ := h
    split at h
    · exact mz_i2l hd (hK _ _ _ _ h)
    · exact h.elim
  · obtain ⟨rfl, h⟩ := h
    split at h
    · exact mz_l2i hd (hK _ _ _ _ h)
    · exact h.elim
  · obtain ⟨rfl, h⟩ := h
    split at h
    · exact mz_i2b hd (hK _ _ _ _ h)
    · exact h.elim
  · obtain ⟨rfl, h⟩ := h
    split at h
    · exact mz_i2s hd (hK _ _ _ _ h)
    · exact h.elim
  · obtain ⟨rfl, h⟩ := h
    split at h
    · exact mz_dup hd h.1 (hK _ _ _ _ h.2)
    · exact h.elim
  · obtain ⟨rfl, h⟩ := h
    split at h
    · exact mz_pop hd h.1 (hK _ _ _ _ h.2)
    · exact h.elim
  · obtain ⟨rfl, h⟩ := h
    split at h
    · exact mz_dup_x1 hd h.1 h.2.1 (hK _ _ _ _ h.2.2)
    · exact h.elim
  · obtain ⟨rfl, h⟩ := h
    split at h
    · exact mz_dup2 hd h.1 h.2.1 (hK _ _ _ _ h.2.2)
    · exact h.elim
  · obtain ⟨rfl, h⟩ := h
    split at h
    · rename_i hi
      exact mz_iload hd hi (hK _ _ _ _ h)
    · exact h.elim
  · obtain ⟨rfl, h⟩ := h
    split at h
    · rename_i hi
      exact mz_iload_n hd hi (hK _ _ _ _ h)
    · exact h.elim
  · obtain ⟨rfl, h⟩ := h
    split at h
    · rename_i hi
      exact mz_lload hd hi (hK _ _ _ _ h)
    · exact h.elim
  · obtain ⟨rfl, h⟩ := h
    split at h
    · rename_i hi
      exact mz_lload_n hd hi (hK _ _ _ _ h)
    · exact h.elim
  · obtain ⟨rfl, h⟩ := h
    split at h
    · rename_i hi
      exact mz_aload hd hi (hK _ _ _ _ h)
    · rename_i hi
      exact mz_aloadN hd hi (hK _ _ _ _ h)
    · exact h.elim
  · obtain ⟨rfl, h⟩ := h
    split at h
    · rename_i hi
      exact mz_aload_n hd hi (hK _ _ _ _ h)
    · rename_i hi
      exact mz_aload_nN hd hi (hK _ _ _ _ h)
    · exact h.elim
  · obtain ⟨rfl, hn, h⟩ := h
    split at h
    · exact mz_istore hd hn (hK _ _ _ _ h)
    · exact h.elim
  · obtain ⟨rfl, hn, h⟩ := h
    split at h
    · exact mz_istore_n hd hn (hK _ _ _ _ h)
    · exact h.elim
  · obtain ⟨rfl, hn, h⟩ := h
    split at h
    · exact mz_lstore hd hn (hK _ _ _ _ h)
    · exact h.elim
  · obtain ⟨rfl, hn, h⟩ := h
    split at h
    · exact mz_lstore_n hd hn (hK _ _ _ _ h)
    · exact h.elim
  · obtain ⟨rfl, hn, h⟩ := h
    split at h
    · exact mz_astore hd hn (hK _ _ _ _ h)
    · exact mz_astoreN hd hn (hK _ _ _ _ h)
    · exact h.elim
  · obtain ⟨rfl, hn, h⟩ := h
    split at h
    · exact mz_astore_n hd hn (hK _ _ _ _ h)
    · exact mz_astore_nN hd hn (hK _ _ _ _ h)
    · exact h.elim
  · obtain ⟨rfl, hn, h⟩ := h
    split at h
    · rename_i hi
      exact mz_iinc hd hi hn (hK _ _ _ _ h)
    · exact h.elim
  · obtain ⟨rfl, h0, h⟩ := h
    split at h
    · exact mz_if_eq hd h0 (fun q => hK _ _ _ _ (h.1 q)) (fun q => hK _ _ _ _ (h.2 q))
    · exact h.elim
  · obtain ⟨rfl, h0, h⟩ := h
    split at h
    · exact mz_icmp_eq hd h0 (fun q => hK _ _ _ _ (h.1 q)) (fun q => hK _ _ _ _ (h.2 q))
    · exact h.elim
  · obtain ⟨rfl, h0, h⟩ := h
    split at h
    · exact mz_if_ne hd h0 (fun q => hK _ _ _ _ (h.1 q)) (fun q => hK _ _ _ _ (h.2 q))
    · exact h.elim
  · obtain ⟨rfl, h0, h⟩ := h
    split at h
    · exact mz_icmp_ne hd h0 (fun q => hK _ _ _ _ (h.1 q)) (fun q => hK _ _ _ _ (h.2 q))
    · exact h.elim
  · obtain ⟨rfl, h0, h⟩ := h
    split at h
    · exact mz_if_lt hd h0 (fun q => hK _ _ _ _ (h.1 q)) (fun q => hK _ _ _ _ (h.2 q))
    · exact h.elim
  · obtain ⟨rfl, h0, h⟩ := h
    split at h
    · exact mz_icmp_lt hd h0 (fun q => hK _ _ _ _ (h.1 q)) (fun q => hK _ _ _ _ (h.2 q))
    · exact h.elim
  · obtain ⟨rfl, h0, h⟩ := h
    split at h
    · exact mz_if_ge hd h0 (fun q => hK _ _ _ _ (h.1 q)) (fun q => hK _ _ _ _ (h.2 q))
    · exact h.elim
  · obtain ⟨rfl, h0, h⟩ := h
    split at h
    · exact mz_icmp_ge hd h0 (fun q => hK _ _ _ _ (h.1 q)) (fun q => hK _ _ _ _ (h.2 q))
    · exact h.elim
  · obtain ⟨rfl, h0, h⟩ := h
    split at h
    · exact mz_if_gt hd h0 (fun q => hK _ _ _ _ (h.1 q)) (fun q => hK _ _ _ _ (h.2 q))
    · exact h.elim
  · obtain ⟨rfl, h0, h⟩ := h
    split at h
    · exact mz_icmp_gt hd h0 (fun q => hK _ _ _ _ (h.1 q)) (fun q => hK _ _ _ _ (h.2 q))
    · exact h.elim
  · obtain ⟨rfl, h0, h⟩ := h
    split at h
    · exact mz_if_le hd h0 (fun q => hK _ _ _ _ (h.1 q)) (fun q => hK _ _ _ _ (h.2 q))
    · exact h.elim
  · obtain ⟨rfl, h0, h⟩ := h
    split at h
    · exact mz_icmp_le hd h0 (fun q => hK _ _ _ _ (h.1 q)) (fun q => hK _ _ _ _ (h.2 q))
    · exact h.elim
  · obtain ⟨rfl, h0, h⟩ := h
    exact mz_goto hd h0 (hK _ _ _ _ h)
  · obtain ⟨rfl, h⟩ := h
    split at h
    · exact mz_ifnull hd (hK _ _ _ _ h)
    · exact mz_ifnullN hd h.1 (hK _ _ _ _ h.2)
    · exact h.elim
  · obtain ⟨rfl, h⟩ := h
    split at h
    · exact mz_ifnonnull hd h.1 (hK _ _ _ _ h.2)
    · exact mz_ifnonnullN hd (hK _ _ _ _ h)
    · exact h.elim
  · obtain ⟨rfl, h⟩ := h
    split at h
    · exact mz_ireturn hd rfl h.1 (hP _ h.2)
    · exact h.elim
  · obtain ⟨rfl, h⟩ := h
    split at h
    · exact mz_lreturn hd rfl (hP _ h)
    · exact h.elim
  · obtain ⟨rfl, h⟩ := h
    split at h
    · exact mz_areturn hd rfl (Or.inl ⟨_, rfl⟩) (Or.inr ⟨_, rfl⟩) (hP _ h)
    · exact mz_areturn hd rfl (Or.inl ⟨_, rfl⟩) (Or.inl rfl) (hP _ h)
    · exact h.elim
  · obtain ⟨rfl, h⟩ := h
    split at h
    · exact mz_return hd rfl (hP _ h)
    · exact h.elim
  · obtain ⟨rfl, h⟩ := h
    split at h
    · split at h
      · rename_i ha
        exact mz_iald hd ha h.1 (hK _ _ _ _ h.2)
      · split at h
        · rename_i ha
          exact mz_xald hd ha h.1 (hK _ _ _ _ h.2)
        · exact h.elim
      · exact h.elim
    · exact h.elim
  · obtain ⟨rfl, h⟩ := h
    split at h
    · split at h
      · rename_i ha
        exact mz_bald hd ha h.1 (hK _ _ _ _ h.2)
      · exact h.elim
    · exact h.elim
  · obtain ⟨rfl, h⟩ := h
    split at h
    · split at h
      · rename_i ha
        exact mz_sald hd ha h.1 (hK _ _ _ _ h.2)
      · exact h.elim
    · exact h.elim
  · obtain ⟨rfl, h⟩ := h
    split at h
    · split at h
      · rename_i ha
        exact mz_lald hd ha h.1 (hK _ _ _ _ h.2)
      · exact h.elim
    · exact h.elim
  · obtain ⟨rfl, h⟩ := h
    split at h
    · split at h
      · rename_i ha
        exact mz_iast hd ha h.1 (hK _ _ _ _ h.2)
      · exact h.elim
    · exact h.elim
  · obtain ⟨rfl, h⟩ := h
    split at h
    · split at h
      · rename_i ha
        exact mz_bast hd ha h.1 (hK _ _ _ _ h.2)
      · exact h.elim
    · exact h.elim
  · obtain ⟨rfl, h⟩ := h
    split at h
    · split at h
      · rename_i ha
        exact mz_sast hd ha h.1 (hK _ _ _ _ h.2)
      · exact h.elim
    · exact h.elim
  · obtain ⟨rfl, h⟩ := h
    split at h
    · split at h
      · rename_i ha
        exact mz_last hd ha h.1 (hK _ _ _ _ h.2)
      · exact h.elim
    · exact h.elim
  · obtain ⟨rfl, h⟩ := h
    split at h
    · split at h
      · rename_i ha
        obtain ⟨h1, h⟩ := h
        split at h
        · rename_i ht
          exact mz_aald hd ha ht h.1 h1 (hK _ _ _ _ h.2)
        · exact h.elim
      · exact h.elim
    · exact h.elim
  · obtain ⟨rfl, h⟩ := h
    split at h
    · split at h
      · rename_i ha
        obtain ⟨h1, h⟩ := h
        split at h
        · rename_i hb2
          split at h
          · rename_i hc
            exact mz_aast hd ha hb2 hc h.1 h1 (hK _ _ _ _ h.2)
          · exact h.elim
        · exact h.elim
      · exact h.elim
    · exact h.elim
  · obtain ⟨rfl, h⟩ := h
    split at h
    · split at h
      · rename_i ha
        split at h
        · rename_i ht
          exact mz_alen hd ha ht (hK _ _ _ _ h)
        · exact h.elim
      · split at h
        · rename_i ha
          exact mz_xlen hd ha (hK _ _ _ _ h)
        · exact h.elim
    · exact h.elim
  · obtain ⟨rfl, h⟩ := h
    split at h
    · split at h
      · rename_i hF
        split at h
        · rename_i ha
          obtain ⟨rfl, h⟩ := h
          split at h
          · rename_i hv
            exact mz_get hd hF ha hv (hK _ _ _ _ h)
          · exact h.elim
        · exact h.elim
      · exact h.elim
    · exact h.elim
  · obtain ⟨rfl, h⟩ := h
    split at h
    · split at h
      · rename_i hF
        split at h
        · rename_i ha
          obtain ⟨rfl, h1, h2, h3, h⟩ := h
          rcases h3 with h3 | ⟨h3, h4, rfl, h5⟩
          · exact mz_put hd hF ha h1 h3 h2 (hK _ _ _ _ h)
          · exact mz_putF h4 hd hF h5 ha h1 h3 h2 (hK _ _ _ _ h)
        · exact h.elim
      · exact h.elim
    · exact h.elim
  · obtain ⟨rfl, h⟩ := h
    split at h
    · rename_i hF
      exact mz_gets hd hF h.1 (hK _ _ _ _ h.2)
    · exact h.elim
  · obtain ⟨rfl, h⟩ := h
    split at h
    · rename_i hF
      exact mz_ldc hd (nm_Con_ok hF) (hK _ _ _ _ h)
    · exact h.elim
  · obtain ⟨rfl, h⟩ := h
    split at h
    · rename_i hF
      exact mz_ldc2 hd (nm_ConL_ok hF) (hK _ _ _ _ h)
    · exact h.elim
  · exact h.elim
/-- k steps, or until a place of S is come to -/
def mz_run (X : mz_E) (cn : Nat) (ini : Bool) (cc : ByteArray) (nL : Nat) (ret : Option FieldType) (S : List Nat) (K : Nat → mz_L → List Value → mz_H → Prop) (P : Option Value → mz_H → Prop) : Nat → Nat → mz_L → List Value → mz_H → Prop
  | 0, pc, l, st, f => K pc l st f
  | k + 1, pc, l, st, f => match decode cc pc with
    | .ok q => mz_S X cn ini nL ret q.1 q.2 pc l st f (fun pc' l' st' f' => if pc' ∈ S then K pc' l' st' f' else mz_run X cn ini cc nL ret S K P k pc' l' st' f') (fun v => P v f)
    | .error _ => False
theorem mz_go (S : List Nat) (k : Nat) (h : mz_run X cn ini cc nL ret S (fun pc' l' st' f' => mz_X G X cn ini cc nL ret rm post thr pc' l' st' k1 k2 n f') (fun v f' => post v n f') k pc l st f) : mz_X G X cn ini cc nL ret rm post thr pc l st k1 k2 n f := by
  induction k generalizing pc l st f with
  | zero => exact h
  | succ k ih =>
    unfold mz_run at h
    split at h
    · rename_i q hd
      refine mz_step hd ?_ (fun v hv => hv) h
      intro pc' l' st' f' hh
      split at hh
      · exact hh
      · exact ih hh
    · exact h.elim
end MZ2
section MZEV
variable {X : mz_E} {cn : Nat} {ini : Bool} {nL : Nat} {ret : Option FieldType} {pc : Nat} {l : mz_L} {st : List Value} {f : mz_H} {K : Nat → mz_L → List Value → mz_H → Prop} {P : Option Value → Prop}
theorem ev_0 {i : Int} : mz_S X cn ini nL ret (.iconst i) 1 pc l st f K P = (K (pc + 1) (l) (.int (Int32.ofInt i) :: st) (f)) := propext ⟨fun h => h.2, fun h => ⟨rfl, h⟩⟩
theorem ev_1 {i : Int} : mz_S X cn ini nL ret (.bipush i) 2 pc l st f K P = (K (pc + 2) (l) (.int (Int8.ofInt i).toInt32 :: st) (f)) := propext ⟨fun h => h.2, fun h => ⟨rfl, h⟩⟩
theorem ev_2 {i : Int} : mz_S X cn ini nL ret (.sipush i) 3 pc l st f K P = (K (pc + 3) (l) (.int (Int16.ofInt i).toInt32 :: st) (f)) := propext ⟨fun h => h.2, fun h => ⟨rfl, h⟩⟩
theorem ev_3 {i : Fin 2} : mz_S X cn ini nL ret (.lconst i) 1 pc l st f K P = (K (pc + 1) (l) (.long (Int64.ofNat (i : Nat)) :: st) (f)) := propext ⟨fun h => h.2, fun h => ⟨rfl, h⟩⟩
theorem ev_4 : mz_S X cn ini nL ret (.aconst_null) 1 pc l st f K P = (K (pc + 1) (l) (.null :: st) (f)) := propext ⟨fun h => h.2, fun h => ⟨rfl, h⟩⟩
theorem ev_5 : mz_S X cn ini nL ret (.iadd) 1 pc l st f K P = ((match st with
      | .int y :: .int x :: r => K (pc + 1) (l) (.int (x + y) :: r) (f)
      | _ => False)) := propext ⟨fun h => h.2, fun h => ⟨rfl, h⟩⟩
theorem ev_6 : mz_S X cn ini nL ret (.isub) 1 pc l st f K P = ((match st with
      | .int y :: .int x :: r => K (pc + 1) (l) (.int (x - y) :: r) (f)
      | _ => False)) := propext ⟨fun h => h.2, fun h => ⟨rfl, h⟩⟩
theorem ev_7 : mz_S X cn ini nL ret (.imul) 1 pc l st f K P = ((match st with
      | .int y :: .int x :: r => K (pc + 1) (l) (.int (x * y) :: r) (f)
      | _ => False)) := propext ⟨fun h => h.2, fun h => ⟨rfl, h⟩⟩
theorem ev_8 : mz_S X cn ini nL ret (.iand) 1 pc l st f K P = ((match st with
      | .int y :: .int x :: r => K (pc + 1) (l) (.int (x &&& y) :: r) (f)
      | _ => False)) := propext ⟨fun h => h.2, fun h => ⟨rfl, h⟩⟩
theorem ev_9 : mz_S X cn ini nL ret (.ior) 1 pc l st f K P = ((match st with
      | .int y :: .int x :: r => K (pc + 1) (l) (.int (x ||| y) :: r) (f)
      | _ => False)) := propext ⟨fun h => h.2, fun h => ⟨rfl, h⟩⟩
theorem ev_10 : mz_S X cn ini nL ret (.ixor) 1 pc l st f K P = ((match st with
      | .int y :: .int x :: r => K (pc + 1) (l) (.int (x ^^^ y) :: r) (f)
      | _ => False)) := propext ⟨fun h => h.2, fun h => ⟨rfl, h⟩⟩
theorem ev_11 : mz_S X cn ini nL ret (.ishl) 1 pc l st f K P = ((match st with
      | .int y :: .int x :: r => K (pc + 1) (l) (.int (x <<< (y &&& 31)) :: r) (f)
      | _ => False)) := propext ⟨fun h => h.2, fun h => ⟨rfl, h⟩⟩
theorem ev_12 : mz_S X cn ini nL ret (.ishr) 1 pc l st f K P = ((match st with
      | .int y :: .int x :: r => K (pc + 1) (l) (.int (x >>> (y &&& 31)) :: r) (f)
      | _ => False)) := propext ⟨fun h => h.2, fun h => ⟨rfl, h⟩⟩
theorem ev_13 : mz_S X cn ini nL ret (.idiv) 1 pc l st f K P = ((match st with
      | .int y :: .int x :: r => (¬ y = 0) ∧ K (pc + 1) (l) (.int (x / y) :: r) (f)
      | _ => False)) := propext ⟨fun h => h.2, fun h => ⟨rfl, h⟩⟩
theorem ev_14 : mz_S X cn ini nL ret (.irem) 1 pc l st f K P = ((match st with
      | .int y :: .int x :: r => (¬ y = 0) ∧ K (pc + 1) (l) (.int (x - x / y * y) :: r) (f)
      | _ => False)) := propext ⟨fun h => h.2, fun h => ⟨rfl, h⟩⟩
theorem ev_15 : mz_S X cn ini nL ret (.ladd) 1 pc l st f K P = ((match st with
      | .long y :: .long x :: r => K (pc + 1) (l) (.long (x + y) :: r) (f)
      | _ => False)) := propext ⟨fun h => h.2, fun h => ⟨rfl, h⟩⟩
theorem ev_16 : mz_S X cn ini nL ret (.lsub) 1 pc l st f K P = ((match st with
      | .long y :: .long x :: r => K (pc + 1) (l) (.long (x - y) :: r) (f)
      | _ => False)) := propext ⟨fun h => h.2, fun h => ⟨rfl, h⟩⟩
theorem ev_17 : mz_S X cn ini nL ret (.lmul) 1 pc l st f K P = ((match st with
      | .long y :: .long x :: r => K (pc + 1) (l) (.long (x * y) :: r) (f)
      | _ => False)) := propext ⟨fun h => h.2, fun h => ⟨rfl, h⟩⟩
theorem ev_18 : mz_S X cn ini nL ret (.land) 1 pc l st f K P = ((match st with
      | .long y :: .long x :: r => K (pc + 1) (l) (.long (x &&& y) :: r) (f)
      | _ => False)) := propext ⟨fun h => h.2, fun h => ⟨rfl, h⟩⟩
theorem ev_19 : mz_S X cn ini nL ret (.lor) 1 pc l st f K P = ((match st with
      | .long y :: .long x :: r => K (pc + 1) (l) (.long (x ||| y) :: r) (f)
      | _ => False)) := propext ⟨fun h => h.2, fun h => ⟨rfl, h⟩⟩
theorem ev_20 : mz_S X cn ini nL ret (.lxor) 1 pc l st f K P = ((match st with
      | .long y :: .long x :: r => K (pc + 1) (l) (.long (x ^^^ y) :: r) (f)
      | _ => False)) := propext ⟨fun h => h.2, fun h => ⟨rfl, h⟩⟩
theorem ev_21 : mz_S X cn ini nL ret (.ldiv) 1 pc l st f K P = ((match st with
      | .long y :: .long x :: r => (¬ y = 0) ∧ K (pc + 1) (l) (.long (x / y) :: r) (f)
      | _ => False)) := propext ⟨fun h => h.2, fun h => ⟨rfl, h⟩⟩
theorem ev_22 : mz_S X cn ini nL ret (.lrem) 1 pc l st f K P = ((match st with
      | .long y :: .long x :: r => (¬ y = 0) ∧ K (pc + 1) (l) (.long (x - x / y * y) :: r) (f)
      | _ => False)) := propext ⟨fun h => h.2, fun h => ⟨rfl, h⟩⟩
theorem ev_23 : mz_S X cn ini nL ret (.lcmp) 1 pc l st f K P = ((match st with
      | .long y :: .long x :: r => K (pc + 1) (l) (.int (lg_cmp x y) :: r) (f)
      | _ => False)) := propext ⟨fun h => h.2, fun h => ⟨rfl, h⟩⟩
theorem ev_24 : mz_S X cn ini nL ret (.lshl) 1 pc l st f K P = ((match st with
      | .int y :: .long x :: r => K (pc + 1) (l) (.long (x <<< (y.toInt64 &&& 63)) :: r) (f)
      | _ => False)) := propext ⟨fun h => h.2, fun h => ⟨rfl, h⟩⟩
theorem ev_25 : mz_S X cn ini nL ret (.lshr) 1 pc l st f K P = ((match st with
      | .int y :: .long x :: r => K (pc + 1) (l) (.long (x >>> (y.toInt64 &&& 63)) :: r) (f)
      | _ => False)) := propext ⟨fun h => h.2, fun h => ⟨rfl, h⟩⟩
theorem ev_26 : mz_S X cn ini nL ret (.lushr) 1 pc l st f K P = ((match st with
      | .int y :: .long x :: r => K (pc + 1) (l) (.long (x.toUInt64 >>> (y.toInt64.toUInt64 &&& Int64.toUInt64 63)).toInt64 :: r) (f)
      | _ => False)) := propext ⟨fun h => h.2, fun h => ⟨rfl, h⟩⟩
theorem ev_27 : mz_S X cn ini nL ret (.ineg) 1 pc l st f K P = ((match st with
      | .int x :: r => K (pc + 1) (l) (.int (-x) :: r) (f)
      | _ => False)) := propext ⟨fun h => h.2, fun h => ⟨rfl, h⟩⟩
theorem ev_28 : mz_S X cn ini nL ret (.i2l) 1 pc l st f K P = ((match st with
      | .int x :: r => K (pc + 1) (l) (.long x.toInt64 :: r) (f)
      | _ => False)) := propext ⟨fun h => h.2, fun h => ⟨rfl, h⟩⟩
theorem ev_29 : mz_S X cn ini nL ret (.l2i) 1 pc l st f K P = ((match st with
      | .long x :: r => K (pc + 1) (l) (.int x.toInt32 :: r) (f)
      | _ => False)) := propext ⟨fun h => h.2, fun h => ⟨rfl, h⟩⟩
theorem ev_30 : mz_S X cn ini nL ret (.i2b) 1 pc l st f K P = ((match st with
      | .int x :: r => K (pc + 1) (l) (.int x.toInt8.toInt32 :: r) (f)
      | _ => False)) := propext ⟨fun h => h.2, fun h => ⟨rfl, h⟩⟩
theorem ev_31 : mz_S X cn ini nL ret (.i2s) 1 pc l st f K P = ((match st with
      | .int x :: r => K (pc + 1) (l) (.int x.toInt16.toInt32 :: r) (f)
      | _ => False)) := propext ⟨fun h => h.2, fun h => ⟨rfl, h⟩⟩
theorem ev_32 : mz_S X cn ini nL ret (.dup) 1 pc l st f K P = ((match st with
      | v :: r => v.category = 1 ∧ K (pc + 1) (l) (v :: v :: r) (f)
      | _ => False)) := propext ⟨fun h => h.2, fun h => ⟨rfl, h⟩⟩
theorem ev_33 : mz_S X cn ini nL ret (.pop) 1 pc l st f K P = ((match st with
      | v :: r => v.category = 1 ∧ K (pc + 1) (l) (r) (f)
      | _ => False)) := propext ⟨fun h => h.2, fun h => ⟨rfl, h⟩⟩
theorem ev_34 : mz_S X cn ini nL ret (.dup_x1) 1 pc l st f K P = ((match st with
      | v :: w :: r => v.category = 1 ∧ w.category = 1 ∧ K (pc + 1) (l) (v :: w :: v :: r) (f)
      | _ => False)) := propext ⟨fun h => h.2, fun h => ⟨rfl, h⟩⟩
theorem ev_35 : mz_S X cn ini nL ret (.dup2) 1 pc l st f K P = ((match st with
      | v :: w :: r => v.category = 1 ∧ w.category = 1 ∧ K (pc + 1) (l) (v :: w :: v :: w :: r) (f)
      | _ => False)) := propext ⟨fun h => h.2, fun h => ⟨rfl, h⟩⟩
theorem ev_36 {i : Nat} : mz_S X cn ini nL ret (.iload i) 2 pc l st f K P = ((match l[i]? with
      | some (some (.int x)) => K (pc + 2) (l) (.int x :: st) (f)
      | _ => False)) := propext ⟨fun h => h.2, fun h => ⟨rfl, h⟩⟩
theorem ev_37 {i : Fin 4} : mz_S X cn ini nL ret (.iload_n i) 1 pc l st f K P = ((match l[i.val]? with
      | some (some (.int x)) => K (pc + 1) (l) (.int x :: st) (f)
      | _ => False)) := propext ⟨fun h => h.2, fun h => ⟨rfl, h⟩⟩
theorem ev_38 {i : Nat} : mz_S X cn ini nL ret (.lload i) 2 pc l st f K P = ((match l[i]? with
      | some (some (.long x)) => K (pc + 2) (l) (.long x :: st) (f)
      | _ => False)) := propext ⟨fun h => h.2, fun h => ⟨rfl, h⟩⟩
theorem ev_39 {i : Fin 4} : mz_S X cn ini nL ret (.lload_n i) 1 pc l st f K P = ((match l[i.val]? with
      | some (some (.long x)) => K (pc + 1) (l) (.long x :: st) (f)
      | _ => False)) := propext ⟨fun h => h.2, fun h => ⟨rfl, h⟩⟩
theorem ev_40 {i : Nat} : mz_S X cn ini nL ret (.aload i) 2 pc l st f K P = ((match l[i]? with
      | some (some (.ref x)) => K (pc + 2) (l) (.ref x :: st) (f)
      | some (some .null) => K (pc + 2) (l) (.null :: st) (f)
      | _ => False)) := propext ⟨fun h => h.2, fun h => ⟨rfl, h⟩⟩
theorem ev_41 {i : Fin 4} : mz_S X cn ini nL ret (.aload_n i) 1 pc l st f K P = ((match l[i.val]? with
      | some (some (.ref x)) => K (pc + 1) (l) (.ref x :: st) (f)
      | some (some .null) => K (pc + 1) (l) (.null :: st) (f)
      | _ => False)) := propext ⟨fun h => h.2, fun h => ⟨rfl, h⟩⟩
theorem ev_42 {i : Nat} : mz_S X cn ini nL ret (.istore i) 2 pc l st f K P = (i < nL ∧ (match st with
      | .int x :: r => K (pc + 2) (mz_s1 l i (.int x)) (r) (f)
      | _ => False)) := propext ⟨fun h => h.2, fun h => ⟨rfl, h⟩⟩
theorem ev_43 {i : Fin 4} : mz_S X cn ini nL ret (.istore_n i) 1 pc l st f K P = (i.val < nL ∧ (match st with
      | .int x :: r => K (pc + 1) (mz_s1 l i.val (.int x)) (r) (f)
      | _ => False)) := propext ⟨fun h => h.2, fun h => ⟨rfl, h⟩⟩
theorem ev_44 {i : Nat} : mz_S X cn ini nL ret (.lstore i) 2 pc l st f K P = (i + 1 < nL ∧ (match st with
      | .long x :: r => K (pc + 2) (mz_s2 l i (.long x)) (r) (f)
      | _ => False)) := propext ⟨fun h => h.2, fun h => ⟨rfl, h⟩⟩
theorem ev_45 {i : Fin 4} : mz_S X cn ini nL ret (.lstore_n i) 1 pc l st f K P = (i.val + 1 < nL ∧ (match st with
      | .long x :: r => K (pc + 1) (mz_s2 l i.val (.long x)) (r) (f)
      | _ => False)) := propext ⟨fun h => h.2, fun h => ⟨rfl, h⟩⟩
theorem ev_46 {i : Nat} : mz_S X cn ini nL ret (.astore i) 2 pc l st f K P = (i < nL ∧ (match st with
      | .ref x :: r => K (pc + 2) (mz_s1 l i (.ref x)) (r) (f)
      | .null :: r => K (pc + 2) (mz_s1 l i .null) (r) (f)
      | _ => False)) := propext ⟨fun h => h.2, fun h => ⟨rfl, h⟩⟩
theorem ev_47 {i : Fin 4} : mz_S X cn ini nL ret (.astore_n i) 1 pc l st f K P = (i.val < nL ∧ (match st with
      | .ref x :: r => K (pc + 1) (mz_s1 l i.val (.ref x)) (r) (f)
      | .null :: r => K (pc + 1) (mz_s1 l i.val .null) (r) (f)
      | _ => False)) := propext ⟨fun h => h.2, fun h => ⟨rfl, h⟩⟩
theorem ev_48 {i : Nat} {d : Int} : mz_S X cn ini nL ret (.iinc i d) 3 pc l st f K P = (i < nL ∧ (match l[i]? with
      | some (some (.int x)) => K (pc + 3) (mz_s1 l i (.int (x + Int32.ofInt d))) (st) (f)
      | _ => False)) := propext ⟨fun h => h.2, fun h => ⟨rfl, h⟩⟩
theorem ev_49 {off : Int} : mz_S X cn ini nL ret (.ifCond .eq off) 3 pc l st f K P = (0 ≤ (pc : Int) + off ∧ (match st with
      | .int x :: r => (x = 0 → K (mz_t pc off) (l) (r) (f)) ∧ (¬ x = 0 → K (pc + 3) (l) (r) (f))
      | _ => False)) := propext ⟨fun h => h.2, fun h => ⟨rfl, h⟩⟩
theorem ev_50 {off : Int} : mz_S X cn ini nL ret (.if_icmp .eq off) 3 pc l st f K P = (0 ≤ (pc : Int) + off ∧ (match st with
      | .int y :: .int x :: r => (x = y → K (mz_t pc off) (l) (r) (f)) ∧ (¬ x = y → K (pc + 3) (l) (r) (f))
      | _ => False)) := propext ⟨fun h => h.2, fun h => ⟨rfl, h⟩⟩
theorem ev_51 {off : Int} : mz_S X cn ini nL ret (.ifCond .ne off) 3 pc l st f K P = (0 ≤ (pc : Int) + off ∧ (match st with
      | .int x :: r => (¬ x = 0 → K (mz_t pc off) (l) (r) (f)) ∧ (x = 0 → K (pc + 3) (l) (r) (f))
      | _ => False)) := propext ⟨fun h => h.2, fun h => ⟨rfl, h⟩⟩
theorem ev_52 {off : Int} : mz_S X cn ini nL ret (.if_icmp .ne off) 3 pc l st f K P = (0 ≤ (pc : Int) + off ∧ (match st with
      | .int y :: .int x :: r => (¬ x = y → K (mz_t pc off) (l) (r) (f)) ∧ (x = y → K (pc + 3) (l) (r) (f))
      | _ => False)) := propext ⟨fun h => h.2, fun h => ⟨rfl, h⟩⟩
theorem ev_53 {off : Int} : mz_S X cn ini nL ret (.ifCond .lt off) 3 pc l st f K P = (0 ≤ (pc : Int) + off ∧ (match st with
      | .int x :: r => (x < 0 → K (mz_t pc off) (l) (r) (f)) ∧ (¬ x < 0 → K (pc + 3) (l) (r) (f))
      | _ => False)) := propext ⟨fun h => h.2, fun h => ⟨rfl, h⟩⟩
theorem ev_54 {off : Int} : mz_S X cn ini nL ret (.if_icmp .lt off) 3 pc l st f K P = (0 ≤ (pc : Int) + off ∧ (match st with
      | .int y :: .int x :: r => (x < y → K (mz_t pc off) (l) (r) (f)) ∧ (¬ x < y → K (pc + 3) (l) (r) (f))
      | _ => False)) := propext ⟨fun h => h.2, fun h => ⟨rfl, h⟩⟩
theorem ev_55 {off : Int} : mz_S X cn ini nL ret (.ifCond .ge off) 3 pc l st f K P = (0 ≤ (pc : Int) + off ∧ (match st with
      | .int x :: r => (0 ≤ x → K (mz_t pc off) (l) (r) (f)) ∧ (¬ 0 ≤ x → K (pc + 3) (l) (r) (f))
      | _ => False)) := propext ⟨fun h => h.2, fun h => ⟨rfl, h⟩⟩
theorem ev_56 {off : Int} : mz_S X cn ini nL ret (.if_icmp .ge off) 3 pc l st f K P = (0 ≤ (pc : Int) + off ∧ (match st with
      | .int y :: .int x :: r => (y ≤ x → K (mz_t pc off) (l) (r) (f)) ∧ (¬ y ≤ x → K (pc + 3) (l) (r) (f))
      | _ => False)) := propext ⟨fun h => h.2, fun h => ⟨rfl, h⟩⟩
theorem ev_57 {off : Int} : mz_S X cn ini nL ret (.ifCond .gt off) 3 pc l st f K P = (0 ≤ (pc : Int) + off ∧ (match st with
      | .int x :: r => (0 < x → K (mz_t pc off) (l) (r) (f)) ∧ (¬ 0 < x → K (pc + 3) (l) (r) (f))
      | _ => False)) := propext ⟨fun h => h.2, fun h => ⟨rfl, h⟩⟩
theorem ev_58 {off : Int} : mz_S X cn ini nL ret (.if_icmp .gt off) 3 pc l st f K P = (0 ≤ (pc : Int) + off ∧ (match st with
      | .int y :: .int x :: r => (y < x → K (mz_t pc off) (l) (r) (f)) ∧ (¬ y < x → K (pc + 3) (l) (r) (f))
      | _ => False)) := propext ⟨fun h => h.2, fun h => ⟨rfl, h⟩⟩
theorem ev_59 {off : Int} : mz_S X cn ini nL ret (.ifCond .le off) 3 pc l st f K P = (0 ≤ (pc : Int) + off ∧ (match st with
      | .int x :: r => (x ≤ 0 → K (mz_t pc off) (l) (r) (f)) ∧ (¬ x ≤ 0 → K (pc + 3) (l) (r) (f))
      | _ => False)) := propext ⟨fun h => h.2, fun h => ⟨rfl, h⟩⟩
theorem ev_60 {off : Int} : mz_S X cn ini nL ret (.if_icmp .le off) 3 pc l st f K P = (0 ≤ (pc : Int) + off ∧ (match st with
      | .int y :: .int x :: r => (x ≤ y → K (mz_t pc off) (l) (r) (f)) ∧ (¬ x ≤ y → K (pc + 3) (l) (r) (f))
      | _ => False)) := propext ⟨fun h => h.2, fun h => ⟨rfl, h⟩⟩
theorem ev_61 {off : Int} : mz_S X cn ini nL ret (.goto off) 3 pc l st f K P = (0 ≤ (pc : Int) + off ∧ K (mz_t pc off) (l) (st) (f)) := propext ⟨fun h => h.2, fun h => ⟨rfl, h⟩⟩
theorem ev_62 {off : Int} : mz_S X cn ini nL ret (.ifnull off) 3 pc l st f K P = ((match st with
      | .ref _ :: r => K (pc + 3) (l) (r) (f)
      | .null :: r => 0 ≤ (pc : Int) + off ∧ K (mz_t pc off) (l) (r) (f)
      | _ => False)) := propext ⟨fun h => h.2, fun h => ⟨rfl, h⟩⟩
theorem ev_63 {off : Int} : mz_S X cn ini nL ret (.ifnonnull off) 3 pc l st f K P = ((match st with
      | .ref _ :: r => 0 ≤ (pc : Int) + off ∧ K (mz_t pc off) (l) (r) (f)
      | .null :: r => K (pc + 3) (l) (r) (f)
      | _ => False)) := propext ⟨fun h => h.2, fun h => ⟨rfl, h⟩⟩
theorem ev_64 : mz_S X cn ini nL ret (.ireturn) 1 pc l st f K P = ((match st, ret with
      | [.int x], some ty => narrow ty (.int x) = .int x ∧ P (some (.int x))
      | _, _ => False)) := propext ⟨fun h => h.2, fun h => ⟨rfl, h⟩⟩
theorem ev_65 : mz_S X cn ini nL ret (.lreturn) 1 pc l st f K P = ((match st, ret with
      | [.long x], some .long => P (some (.long x))
      | _, _ => False)) := propext ⟨fun h => h.2, fun h => ⟨rfl, h⟩⟩
theorem ev_66 : mz_S X cn ini nL ret (.areturn) 1 pc l st f K P = ((match st, ret with
      | [.ref x], some (.object _) => P (some (.ref x))
      | [.null], some (.object _) => P (some .null)
      | _, _ => False)) := propext ⟨fun h => h.2, fun h => ⟨rfl, h⟩⟩
theorem ev_67 : mz_S X cn ini nL ret (.return_) 1 pc l st f K P = ((match st, ret with
      | [], none => P none
      | _, _ => False)) := propext ⟨fun h => h.2, fun h => ⟨rfl, h⟩⟩
theorem ev_68 : mz_S X cn ini nL ret (.iaload) 1 pc l st f K P = ((match st with
      | .int i :: .ref a :: r => (match f a with
        | .inl (0, N, .inl g) => vp_in i N ∧ K (pc + 1) (l) (.int (g i.toNatClampNeg) :: r) (f)
        | .inr _ => (match X a with
          | some (N, g) => vp_in i N ∧ K (pc + 1) (l) (.int (g i.toNatClampNeg) :: r) (f)
          | none => False)
        | _ => False)
      | _ => False)) := propext ⟨fun h => h.2, fun h => ⟨rfl, h⟩⟩
theorem ev_69 : mz_S X cn ini nL ret (.baload) 1 pc l st f K P = ((match st with
      | .int i :: .ref a :: r => (match f a with
        | .inl (1, N, .inl g) => vp_in i N ∧ K (pc + 1) (l) (.int (g i.toNatClampNeg) :: r) (f)
        | _ => False)
      | _ => False)) := propext ⟨fun h => h.2, fun h => ⟨rfl, h⟩⟩
theorem ev_70 : mz_S X cn ini nL ret (.saload) 1 pc l st f K P = ((match st with
      | .int i :: .ref a :: r => (match f a with
        | .inl (2, N, .inl g) => vp_in i N ∧ K (pc + 1) (l) (.int (g i.toNatClampNeg) :: r) (f)
        | _ => False)
      | _ => False)) := propext ⟨fun h => h.2, fun h => ⟨rfl, h⟩⟩
theorem ev_71 : mz_S X cn ini nL ret (.laload) 1 pc l st f K P = ((match st with
      | .int i :: .ref a :: r => (match f a with
        | .inl (3, N, .inr (.inl g)) => vp_in i N ∧ K (pc + 1) (l) (.long (g i.toNatClampNeg) :: r) (f)
        | _ => False)
      | _ => False)) := propext ⟨fun h => h.2, fun h => ⟨rfl, h⟩⟩
theorem ev_72 : mz_S X cn ini nL ret (.iastore) 1 pc l st f K P = ((match st with
      | .int x :: .int i :: .ref a :: r => (match f a with
        | .inl (0, N, .inl g) => vp_in i N ∧ K (pc + 1) (l) (r) (mz_u f a (.inl (0, N, .inl (upd g i.toNatClampNeg x))))
        | _ => False)
      | _ => False)) := propext ⟨fun h => h.2, fun h => ⟨rfl, h⟩⟩
theorem ev_73 : mz_S X cn ini nL ret (.bastore) 1 pc l st f K P = ((match st with
      | .int x :: .int i :: .ref a :: r => (match f a with
        | .inl (1, N, .inl g) => vp_in i N ∧ K (pc + 1) (l) (r) (mz_u f a (.inl (1, N, .inl (upd g i.toNatClampNeg (vp_nar .byte x)))))
        | _ => False)
      | _ => False)) := propext ⟨fun h => h.2, fun h => ⟨rfl, h⟩⟩
theorem ev_74 : mz_S X cn ini nL ret (.sastore) 1 pc l st f K P = ((match st with
      | .int x :: .int i :: .ref a :: r => (match f a with
        | .inl (2, N, .inl g) => vp_in i N ∧ K (pc + 1) (l) (r) (mz_u f a (.inl (2, N, .inl (upd g i.toNatClampNeg (vp_nar .short x)))))
        | _ => False)
      | _ => False)) := propext ⟨fun h => h.2, fun h => ⟨rfl, h⟩⟩
theorem ev_75 : mz_S X cn ini nL ret (.lastore) 1 pc l st f K P = ((match st with
      | .long x :: .int i :: .ref a :: r => (match f a with
        | .inl (3, N, .inr (.inl g)) => vp_in i N ∧ K (pc + 1) (l) (r) (mz_u f a (.inl (3, N, .inr (.inl (vp_updL g i.toNatClampNeg x)))))
        | _ => False)
      | _ => False)) := propext ⟨fun h => h.2, fun h => ⟨rfl, h⟩⟩
theorem ev_76 : mz_S X cn ini nL ret (.aaload) 1 pc l st f K P = ((match st with
      | .int i :: .ref a :: r => (match f a with
        | .inl (t, N, .inr (.inr (.inr (.inr g)))) => vp_in i N ∧ (match nm_Ty[t]? with
          | some ty => ty.isReference = true ∧ K (pc + 1) (l) (va_rf (g i.toNatClampNeg) :: r) (f)
          | none => False)
        | _ => False)
      | _ => False)) := propext ⟨fun h => h.2, fun h => ⟨rfl, h⟩⟩
theorem ev_77 : mz_S X cn ini nL ret (.aastore) 1 pc l st f K P = ((match st with
      | .ref b :: .int i :: .ref a :: r => (match f a with
        | .inl (t, N, .inr (.inr (.inr (.inr g)))) => vp_in i N ∧ (match f b with
          | .inr (ci, _) => (match nm_Cl[ci]? with
            | some cl => nm_Ty[t]? = some (.object cl.1) ∧ K (pc + 1) (l) (r) (mz_u f a (.inl (t, N, .inr (.inr (.inr (.inr (va_up g i.toNatClampNeg (some b))))))))
            | none => False)
          | _ => False)
        | _ => False)
      | _ => False)) := propext ⟨fun h => h.2, fun h => ⟨rfl, h⟩⟩
theorem ev_78 : mz_S X cn ini nL ret (.arraylength) 1 pc l st f K P = ((match st with
      | .ref a :: r => (match f a with
        | .inl q => (match nm_Ty[q.1]? with
          | some _ => K (pc + 1) (l) (.int (Int32.ofNat q.2.1) :: r) (f)
          | none => False)
        | .inr _ => (match X a with
          | some (N, _) => K (pc + 1) (l) (.int (Int32.ofNat N) :: r) (f)
          | none => False))
      | _ => False)) := propext ⟨fun h => h.2, fun h => ⟨rfl, h⟩⟩
theorem ev_79 {idx : Nat} : mz_S X cn ini nL ret (.getfield idx) 3 pc l st f K P = ((match st with
      | .ref a :: r => (match nm_Fld cn idx with
        | some (ci, k) => (match f a with
          | .inr (ci', fs) => ci' = ci ∧ (match fs[k]? with
            | some v => K (pc + 3) (l) (v :: r) (f)
            | none => False)
          | _ => False)
        | none => False)
      | _ => False)) := propext ⟨fun h => h.2, fun h => ⟨rfl, h⟩⟩
theorem ev_80 {idx : Nat} : mz_S X cn ini nL ret (.putfield idx) 3 pc l st f K P = ((match st with
      | v :: .ref a :: r => (match nm_Fld cn idx with
        | some (ci, k) => (match f a with
          | .inr (ci', fs) => ci' = ci ∧ k < fs.length ∧ mz_fit (nm_FTy ci k) v ∧ (nm_Fin ci k = false ∨ nm_Fin ci k = true ∧ ini = true ∧ ci = cn ∧ nm_FldF cn idx = true) ∧ K (pc + 3) (l) (r) (mz_u f a (.inr (ci, fs.set k v)))
          | _ => False)
        | none => False)
      | _ => False)) := propext ⟨fun h => h.2, fun h => ⟨rfl, h⟩⟩
theorem ev_81 {idx : Nat} : mz_S X cn ini nL ret (.getstatic idx) 3 pc l st f K P = ((match nm_Sta cn idx with
      | some a => X a ≠ none ∧ K (pc + 3) (l) (.ref a :: st) (f)
      | none => False)) := propext ⟨fun h => h.2, fun h => ⟨rfl, h⟩⟩
theorem ev_82 {idx : Nat} : mz_S X cn ini nL ret (.ldc idx) 2 pc l st f K P = ((match nm_Con cn idx with
      | some v => K (pc + 2) (l) (.int v :: st) (f)
      | none => False)) := propext ⟨fun h => h.2, fun h => ⟨rfl, h⟩⟩
theorem ev_83 {idx : Nat} : mz_S X cn ini nL ret (.ldc2_w idx) 3 pc l st f K P = ((match nm_ConL cn idx with
      | some v => K (pc + 3) (l) (.long v :: st) (f)
      | none => False)) := propext ⟨fun h => h.2, fun h => ⟨rfl, h⟩⟩
end MZEV
