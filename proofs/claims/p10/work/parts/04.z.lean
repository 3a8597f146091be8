/-! a step of a walk at a known place: nothing is unfolded under the binders of what comes behind it -/
theorem mz_rl {X : mz_E} {cn : Nat} {ini : Bool} {cc : ByteArray} {nL : Nat} {ret : Option FieldType} {S : List Nat} {K : Nat → mz_L → List Value → mz_H → Prop} {P : Option Value → mz_H → Prop} {k pc : Nat} {l : mz_L} {st : List Value} {f : mz_H} {i : Instr} {len : Nat} (hd : decode cc pc = .ok (i, len)) :
    mz_run X cn ini cc nL ret S K P (k + 1) pc l st f = mz_S X cn ini nL ret i len pc l st f (fun pc' l' st' f' => if pc' ∈ S then K pc' l' st' f' else mz_run X cn ini cc nL ret S K P k pc' l' st' f') (fun v => P v f) := by
  first
  | (rw [mz_run, hd]; done)
  | (rw [mz_run, hd]; rfl)
  | (unfold mz_run; rw [hd]; done)
  | (unfold mz_run; rw [hd]; rfl)
  | (simp only [mz_run, hd]; done)
theorem mz_r0 {X : mz_E} {cn : Nat} {ini : Bool} {cc : ByteArray} {nL : Nat} {ret : Option FieldType} {S : List Nat} {K : Nat → mz_L → List Value → mz_H → Prop} {P : Option Value → mz_H → Prop} {pc : Nat} {l : mz_L} {st : List Value} {f : mz_H} : mz_run X cn ini cc nL ret S K P 0 pc l st f = K pc l st f := rfl
