/-! what holds at the law's entry -/
theorem law_hG {s : State} {args : Array Value} (hts : ∀ w ∈ lw_tbl, w.before args s = true) : ∀ w ∈ gW, w.before args s = true := fun w h => hts w (List.mem_filter.mp h).1
theorem law_K {s : State} {args : Array Value} (hts : ∀ w ∈ lw_tbl, w.before args s = true) : ∃ (D : va_G) (cI cC cL : ClassId), va_K D vwCl (ag_T cI cC cL) s := by
  have hG := law_hG hts
  obtain ⟨c0, i0, g0⟩ := u_known (n := 3) hG inX0 (hG _ k_120)
  obtain ⟨c1, i1, g1⟩ := u_known (n := 11) hG inX1 (hG _ k_24)
  obtain ⟨c2, i2, g2⟩ := u_known (n := 4) hG inX2 (hG _ k_162)
  obtain ⟨c3, i3, g3⟩ := u_known (n := 6) hG inX3 (hG _ k_140)
  obtain ⟨c4, i4, g4⟩ := u_known (n := 7) hG inX4 (hG _ k_81)
  obtain ⟨c5, i5, g5⟩ := u_known (n := 6) hG inX5 (hG _ k_16)
  obtain ⟨cI, kI, pI, a1, a2, a3⟩ := Cond.arrayClass_spec (hG _ k_79)
  obtain ⟨cC, kC, pC, b1, b2, b3⟩ := Cond.arrayClass_spec (hG _ k_160)
  obtain ⟨pL, cL, kL, d1, -, d3, d4, d5⟩ := Cond.arrayOver_spec (hts (.arrayOver (.object RX1)) (List.mem_of_getElem? (i := 126) (by decide +kernel)))
  refine ⟨(fun k => if k = 0 then c0 else if k = 1 then c1 else if k = 2 then c2 else if k = 3 then c3 else if k = 4 then c4 else c5, fun k => if k = 0 then i0 else if k = 1 then i1 else if k = 2 then i2 else if k = 3 then i3 else if k = 4 then i4 else i5), cI, cC, cL, ?_, ?_⟩
  · intro k q hq
    match k, hq with
    | 0, hq => cases hq; exact g0
    | 1, hq => cases hq; exact g1
    | 2, hq => cases hq; exact g2
    | 3, hq => cases hq; exact g3
    | 4, hq => cases hq; exact g4
    | 5, hq => cases hq; exact g5
    | k + 6, hq => simp [vwCl] at hq
  · intro k q hq
    match k, hq with
    | 0, hq => cases hq; exact ⟨fun n z => ⟨fun k h => (by cases h), kI, a2, pI, a3⟩, a1⟩
    | 1, hq => cases hq; exact ⟨fun n z => ⟨fun k h => (by cases h), kC, b2, pC, b3⟩, b1⟩
    | 2, hq => cases hq; exact ⟨fun n z => ⟨fun k h => (by cases h), kL, d3, pL, d4⟩, kL, pL, d3, d4, d1, d5⟩
    | k + 3, hq => simp at hq
theorem law_N {s : State} {args : Array Value} (hts : ∀ w ∈ lw_tbl, w.before args s = true) : ag_N s :=
  ⟨va_Nw.of rfl (hts _ (List.mem_of_getElem? (i := 25) (by decide +kernel))), va_Nw.of rfl (hts _ (List.mem_of_getElem? (i := 82) (by decide +kernel))), va_Nw.of rfl (hts _ (List.mem_of_getElem? (i := 121) (by decide +kernel))), va_Nw.of rfl (hts _ (List.mem_of_getElem? (i := 127) (by decide +kernel))), va_Nw.of rfl (hts _ (List.mem_of_getElem? (i := 141) (by decide +kernel))), va_Nw.of rfl (hts _ (List.mem_of_getElem? (i := 163) (by decide +kernel))), va_Nw.of rfl (hts _ (List.mem_of_getElem? (i := 213) (by decide +kernel))), va_Nw.of rfl (hts _ (List.mem_of_getElem? (i := 371) (by decide +kernel))), va_Nw.of rfl (hts _ (List.mem_of_getElem? (i := 328) (by decide +kernel))), va_Nw.of rfl (hts _ (List.mem_of_getElem? (i := 330) (by decide +kernel)))⟩
theorem law_O {s : State} {args : Array Value} (hts : ∀ w ∈ lw_tbl, w.before args s = true) : va_AO RX1 s := va_AO.of (hts (.arrayOver (.object RX1)) (List.mem_of_getElem? (i := 126) (by decide +kernel)))
theorem law_Z {s : State} {args : Array Value} (hts : ∀ w ∈ lw_tbl, w.before args s = true) (hgv : (Jvm.Cond.and given_1 narrow_1).before args s = true) : ag_ZZ (fun q => s.heap.size ≤ q) s s.heap := by
  have hq := flat_of_before _ hgv
  have hA : ∀ a : Nat, a < s.heap.size → ¬ (fun q : Nat => s.heap.size ≤ q) a := fun a h => Nat.not_le.mpr h
  obtain ⟨tL, l1, l2⟩ := va_Tof (tm := .static "LagoonGates" "LEAST_SETTING" "[I") (ty := .int) (N := 3) (f := ag_fL) (by decide) (hq _ (by decide +kernel)) (va_eqt (hq _ (by decide +kernel))) (fun j hj => by
    rcases j with _ | _ | _ | j
    · exact va_eqt (z := 1) (hq (.eq (.elem (.static "LagoonGates" "LEAST_SETTING" "[I") (.int 0)) (.int 1)) (by decide +kernel))
    · exact va_eqt (z := 0) (hq (.eq (.elem (.static "LagoonGates" "LEAST_SETTING" "[I") (.int 1)) (.int 0)) (by decide +kernel))
    · exact va_eqt (z := 1) (hq (.eq (.elem (.static "LagoonGates" "LEAST_SETTING" "[I") (.int 2)) (.int 1)) (by decide +kernel))
    · omega) hA
  obtain ⟨tM, m1, m2⟩ := va_Tof (tm := .static "LagoonGates" "MOST_SETTING" "[I") (ty := .int) (N := 3) (f := ag_fM) (by decide) (hq _ (by decide +kernel)) (va_eqt (hq _ (by decide +kernel))) (fun j hj => by
    rcases j with _ | _ | _ | j
    · exact va_eqt (z := 400) (hq (.eq (.elem (.static "LagoonGates" "MOST_SETTING" "[I") (.int 0)) (.int 400)) (by decide +kernel))
    · exact va_eqt (z := 400) (hq (.eq (.elem (.static "LagoonGates" "MOST_SETTING" "[I") (.int 1)) (.int 400)) (by decide +kernel))
    · exact va_eqt (z := 9999) (hq (.eq (.elem (.static "LagoonGates" "MOST_SETTING" "[I") (.int 2)) (.int 9999)) (by decide +kernel))
    · omega) hA
  exact ⟨tL, tM, va_Zof (hts (.laysStatic "LagoonGates" "LEAST_SETTING" "[I") (List.mem_of_getElem? (i := 329) (by decide +kernel))) (law_hG hts _ k_7) l1 hA, l2, va_Zof (hts (.laysStatic "LagoonGates" "MOST_SETTING" "[I") (List.mem_of_getElem? (i := 331) (by decide +kernel))) (law_hG hts _ k_7) m1 hA, m2⟩
section AGD
variable {p : Program} {l : Launch} {e : Env} {R : Room} {s : State} {m : MethodId} {args : Array Value} {below : List Frame} {meth : Method} {c : Code} {H : Heap} {locs : List Loc} {cells slots : Nat} {Q : State → Prop}
variable {cc : ByteArray} {pc : Nat} {ls : Array Slot} {rest : List Value} {D : va_G} {A : Nat → Prop} {a : Nat} {cI cC cL : ClassId} {w : va_W} {H0 : Heap}
theorem ag_callC {own : String} {index maxL fr lo mc ms nL : Nat} {y : MethodName} {code : ByteArray} {post : va_W → Prop} {pre : va_W} {b : Nat} {en : va_E} {lv : List (Nat × Value)}
    (hx : p.tables.exec = Jvm.exec) (hb : c.code = cc) (hml : c.maxLocals = nL) (hown : s.vm.findClass own = some m.cls) (hG : ∀ w ∈ gW, w.before args s = true) (hK : va_K D vwCl (ag_T cI cC cL) s) (hO : va_AO RX1 s) (hN : ag_NZ A s) (hA : ∀ q, s.heap.size ≤ q → A q) (hP : va_P D vwCl (pre ++ [(b, en)]) H) (hD : va_D A (pre ++ [(b, en)])) (hS : va_S A s.heap H locs) (hl : lv_has ls nL lv)
    (hM : ag_MC l y code maxL fr lo mc ms D cI cC cL [.ref b] [(b, en)] post) (f1 : Cond.code y code maxL none ∈ gW) (f2 : Cond.instanceMethod y ∈ gW) (f4 : Cond.initialized y.cls ∈ gW) (f5 : y.cls ≠ "java/lang/invoke/MethodHandle" ∧ y.cls ≠ "java/lang/invoke/VarHandle" ∧ (parseMethodDescriptor y.desc).map (fun d => d.parameters.length) = some 0) (f6 : y.name = "<init>") (hlk : Cond.methodLink own index y ∈ gW)
    (hcat : (rest.map fun v => v.category).sum ≤ 8) (hR : fr + 1 ≤ R.frames ∧ 8 + (maxL + 11) + lo ≤ R.locals) (hz : cells + mc ≤ R.cells ∧ slots + ms ≤ R.slots)
    (hdg : decode cc pc = .ok (.invokespecial index, 3))
    (kk : ∀ (w1 : va_W) (H1 : Heap) (locs1 : List Loc), post w1 → va_P D vwCl (pre ++ w1) H1 → va_D A (pre ++ w1) → va_S A s.heap H1 locs1 → W p l e R s m args below meth c H1 locs1 (cells + mc) (slots + ms) Q (F0 m (pc + 3) ls rest)) :
    W p l e R s m args below meth c H locs cells slots Q (F0 m pc ls (.ref b :: rest)) := by
  have hlast : (pre ++ [(b, en)])[pre.length]? = some (b, en) := by rw [List.getElem?_append_right (Nat.le_refl _), Nat.sub_self]; rfl
  have hPc : va_P D vwCl [(b, en)] H := fun k z hz => by
    have h0 : k = 0 := by
      have := (List.getElem?_eq_some_iff.mp hz).1
      simp at this; omega
    subst h0
    cases hz
    exact hP _ _ hlast
  have hDc : va_D A [(b, en)] := ⟨fun i j x y hx hy _ => by
      have h1 := (List.getElem?_eq_some_iff.mp hx).1
      have h2 := (List.getElem?_eq_some_iff.mp hy).1
      simp at h1 h2; omega, fun k z hz => by
    have h0 : k = 0 := by
      have := (List.getElem?_eq_some_iff.mp hz).1
      simp at this; omega
    subst h0
    cases hz
    exact hD.2 _ _ hlast⟩
  have hFc : ∀ q, va_A [(b, en)] H.size q → A q := by
    rintro q (⟨k, e, h⟩ | h)
    · exact hDc.2 k _ h
    · exact hA q (Nat.le_trans hS.1 h)
  have hp := ag_preS (av := [.ref b]) hK hN hS hFc hPc hDc
  refine va_callv (va_runI (As := []) (rest := rest) ⟨hx, hb, hml, hown, hG⟩ (hM H.size) ⟨callB_of 0 hG (gW_good f1) rfl rfl rfl (hG _ f4) (hG _ hlk) f5 hR, f6, hG _ f2⟩ ⟨?_, ?_⟩ rfl rfl hl.1 rfl (lv_room hcat) hdg hz) hS (fun q _ h => hFc q h) hFc (fun u t H1 locs1 ht hvm hw hB hz1 hk1 hS1 => ?_)
  · exact fun a U g mk q => ⟨(ag_In_blind a U g mk ⟨q.1, q.2.1⟩).1, (ag_In_blind a U g mk ⟨q.1, q.2.1⟩).2, va_AO.moved (u := U) (U := U.calling g mk a) (Vm.Alike.refl U.vm) q.2.2⟩
  · exact fun U hU hW => ⟨(hp.2 U hU hW).1, (hp.2 U hU hW).2, hO.moved hW.alike⟩
  · obtain ⟨hP1, hD1⟩ := hB
    rw [ht] at hP1
    obtain ⟨g1, g2⟩ := ag_cjoin (fun q h => hA q (Nat.le_trans hS.1 h)) hP hD hk1 hP1 hD1
    exact kk u H1 locs1 hw g1 g2 hS1
end AGD
