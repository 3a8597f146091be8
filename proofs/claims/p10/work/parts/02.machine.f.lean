/-! throw new C(text): the end of a method -/
theorem mz_throw {G : mz_G} {X : mz_E} {cn : Nat} {ini : Bool} {cc : ByteArray} {nL : Nat} {ret : Option FieldType} {rm : Room} {post : Option Value → Nat → mz_H → Prop} {thr : String → Nat → mz_H → Prop} {pc : Nat} {l : mz_L} {r : List Value} {k1 k2 n : Nat} {f : mz_H} {C text : String} {names : List String} {i1 i2 i3 : Nat}
    (hfl : G.1.flags = pinnedFlags ++ [noTraceFlag]) (hcn : cn ≠ 13) (hd0 : decode cc pc = .ok (.new i1, 3)) (hd3 : decode cc (pc + 3) = .ok (.dup, 1)) (hd4 : decode cc (pc + 4) = .ok (.ldc i2, 2)) (hd6 : decode cc (pc + 6) = .ok (.invokespecial i3, 3)) (hd9 : decode cc (pc + 9) = .ok (.athrow, 1))
    (ws : Cond.stringRef (nm_Own cn) i2 text ∈ nm_Ns) (hw : ∀ w ∈ Cond.classLink (nm_Own cn) i1 C :: Cond.initialized C :: Bundle.ownAtoms (nm_Own cn) i3 C names, ((w ∈ nm_Ts ∨ w ∈ nm_Ns) ∧ Jvm.Free.Str.ridesW w = true) ∨ w = .laysStatic Bundle.tN "UNASSIGNED_STACK" Bundle.steD ∨ w = .laysStatic Bundle.tN "SUPPRESSED_SENTINEL" Bundle.listD ∨ w = .isRef (.static Bundle.tN "UNASSIGNED_STACK" Bundle.steD) ∨ w = .isRef (.static Bundle.tN "SUPPRESSED_SENTINEL" Bundle.listD))
    (hfit : Bundle.fit C = true) (hfits : ∀ n ∈ names, Bundle.fit n = true) (hf : names.length + 3 < rm.frames) (hlo : (r.map fun v => v.category).sum + (13 * (names.length + 1) + 43) ≤ rm.locals) (hm1 : k1 + 1 ≤ rm.cells) (hm2 : k2 + 6 ≤ rm.slots) (h : thr C n f) :
    mz_X G X cn ini cc nL ret rm post thr pc l r k1 k2 n f := by
  intro hk1 hk2 hol hos p e s m args below meth c A H locs ls ad ad0 n0 ok rep hl
  obtain ⟨hx, hb, hml, hr, hown, hin, hlocks, hts, hns, hK, hA⟩ := id ok
  obtain ⟨rP, rD, rS, rW, rN, rA, rX⟩ := id rep
  intro T hT S
  have hks := Jvm.Free.Str.KeepsShape.of_stand S
  have hH : ∀ q : Nat, q < s.heap.size → ¬ A q → T.heap[q]? = s.heap[q]? := fun q h1 h2 => by rw [hT]; exact rS.2.1 q h1 h2
  have z1 := rX.2.2.1
  have z2 := rX.2.2.2
  have t1 : th_lz Bundle.tN "UNASSIGNED_STACK" Bundle.steD A T T.heap := th_lz_moved S.warmed.alike hH (fun _ h => h) z1
  have t2 : th_lz Bundle.tN "SUPPRESSED_SENTINEL" Bundle.listD A T T.heap := th_lz_moved S.warmed.alike hH (fun _ h => h) z2
  have hwT : ∀ w ∈ Cond.classLink (nm_Own cn) i1 C :: Cond.initialized C :: Bundle.ownAtoms (nm_Own cn) i3 C names, w.before args T = true := by
    intro w hq
    rcases hw w hq with ⟨q1 | q1, q2⟩ | rfl | rfl | rfl | rfl
    · exact Jvm.Free.Str.rides_of_W w q2 S.warmed hks (hts w q1)
    · exact Jvm.Free.Str.rides_of_W w q2 S.warmed hks (hns w q1)
    · exact th_lz_lays t1
    · exact th_lz_lays t2
    · exact th_lz_isRef t1
    · exact th_lz_isRef t2
  obtain ⟨U, a, ce, hst, hrun, hend, hWU, hsame, hce, hvm, hcls, hkeep⟩ := th_throw (names := names) (st := r.map (mz_v ad)) S hx (Launch.traces_off hfl S.admits) hb hown (hwT _ (by simp)) (hwT _ (by simp)) (th_sargs (hns _ ws)) (fun w q => hwT w (List.mem_cons_of_mem _ (List.mem_cons_of_mem _ q))) hfit hfits hd0 hd3 hd4 hd6 hd9 (covers_of_empty (hlocks.2.1 hcn) _) (by rw [hml]; exact hl.1) hlocks.1 hf
    (by rw [List.map_map, show ((fun v : Value => v.category) ∘ mz_v ad) = (fun v => v.category) from funext (mz_v_cat ad)]; exact hlo) hm1 hm2
  have hkH : ∀ q : Nat, q < H.size → U.heap[q]? = H[q]? := fun q hq => by
    have e1 : H[q]? = some H[q] := Array.getElem?_eq_getElem hq
    rw [e1]
    exact hkeep q _ (by rw [hT]; exact e1)
  refine ⟨U, hst, Or.inr ⟨a, C, ce, ad, n, f, locs, hrun, hend, h, hce, by rw [hvm]; rfl, (by rw [hvm]; exact (fun z => by cases z)), hcls, rP.kept (fun k x hx => hkH x.1 ((rP k x hx).lt)), rD, ?_, rW, rN, rA, hWU, hsame.mono hm1 hm2, rS.2.2⟩⟩
  refine ⟨?_, fun q h1 h2 => ?_⟩
  · exact hsame.2.1
  · rw [hkH q (Nat.lt_of_lt_of_le h1 rS.1)]; exact rS.2.1 q h1 h2
