/-! cell: it reads the script, or makes a number of its own; any number will do -/
def ag_MX (l : Launch) (y : MethodName) (code : ByteArray) (maxL : Nat) (ret : FieldType) (fr lo : Nat) (D : va_G) (cI cC cL : ClassId) (b L : Nat) (xs : Nat → Int32) (av : List Value) : Prop :=
  ∀ sz : Nat, b < sz → Met l y (.code y code maxL (some ret) :: gW) (ag_rm fr lo) (va_Pc av (fun U => ag_In D cI cC cL [] sz U ∧ va_X b L xs U U.heap)) (va_Qi (fun _ w' => [] = w') (ag_Out D []) (va_A [] sz)) 0 0 (va_A [] sz)
theorem ag_MX.of {l : Launch} {y : MethodName} {cc : ByteArray} {maxL : Nat} {ret : FieldType} {fr lo : Nat} {D : va_G} {cI cC cL : ClassId} {b L : Nat} {xs : Nat → Int32} {av : List Value} (hy : plainFor y = true) (hav : (lg_sl av).length ≤ maxL)
    (h : ∀ (p : Program) (e : Env) (s : State) (m : MethodId) (below : List Frame) (meth : Method) (c : Code), p.tables.exec = Jvm.exec → c.code = cc → meth.sig.returnType = some ret → meth.locks = false → c.maxLocals = maxL → s.vm.findClass y.cls = some m.cls →
      (∀ w ∈ gW, w.before av.toArray s = true) → va_X b L xs s s.heap → b < s.heap.size →
      ∀ A : Nat → Prop, ¬ A b → ∀ (H : Heap) (locs : List Loc), va_P D vwCl [] H → va_S A s.heap H locs →
      ∀ ls : Array Slot, lv_has ls maxL (lv_args 0 av) → W p l e (ag_rm fr lo) s m av.toArray below meth c H locs 0 0 (MQ below (va_Qi (fun _ w' => [] = w') (ag_Out D []) A) av.toArray s 0 0 A) (F0 m 0 ls [])) : ag_MX l y cc maxL ret fr lo D cI cC cL b L xs av := by
  intro sz hsz0
  refine ag_ofW (cc := cc) (maxL := maxL) (ret := some ret) hy rfl ?_
  intro p e s m args below meth c s₁ B hml hv
  obtain ⟨rfl, ⟨hsz, hP, hK, hD0, hN, hZ⟩, hX⟩ := hv
  have hts := atoms_spec (ws := .code y cc maxL (some ret) :: gW) B.pre
  subst hsz
  have hl := lv_entry av (n := maxL) hav
  rw [lg_entry_eq]
  refine h p e s m below meth c B.exec B.bytes B.returns B.notSynchronized hml (findClass_of_methodNamed B.named) (fun w hw => hts w (List.mem_cons_of_mem _ hw)) hX hsz0 _ ?_ _ _ hP va_S.rf _ hl
  rintro (⟨k, e1, h1⟩ | h1)
  · simp at h1
  · omega
section AGX
variable {p : Program} {l : Launch} {e : Env} {R : Room} {s : State} {m : MethodId} {args : Array Value} {below : List Frame} {meth : Method} {c : Code} {H : Heap} {locs : List Loc} {cells slots : Nat} {Q : State → Prop}
variable {cc : ByteArray} {pc : Nat} {ls : Array Slot} {rest : List Value} {D : va_G} {A : Nat → Prop} {a : Nat} {cI cC cL : ClassId} {w : va_W} {H0 : Heap}
theorem ag_callX {own : String} {index maxL fr lo nL b L : Nat} {xs : Nat → Int32} {y : MethodName} {code : ByteArray} {ret : FieldType} {As : List Value} {st0 : List Value} {lv : List (Nat × Value)}
    (hx : p.tables.exec = Jvm.exec) (hb : c.code = cc) (hml : c.maxLocals = nL) (hown : s.vm.findClass own = some m.cls) (hG : ∀ w ∈ gW, w.before args s = true) (hK : va_K D vwCl (ag_T cI cC cL) s) (hN : ag_NZ A s) (hA : ∀ q, s.heap.size ≤ q → A q) (hX : va_X b L xs s s.heap) (hbl : b < s.heap.size) (hbA : ¬ A b) (hP : va_P D vwCl w H) (hD : va_D A w) (hS : va_S A s.heap H locs) (hl : lv_has ls nL lv)
    (hM : ag_MX l y code maxL ret fr lo D cI cC cL b L xs As) (hf : ag_fS y code maxL (some ret) As.length) (hlk : Cond.methodLink own index y ∈ gW)
    (hst : st0 = As.reverse ++ rest) (hcat : (rest.map fun v => v.category).sum ≤ 8) (hR : fr + 1 ≤ R.frames ∧ 8 + (maxL + 11) + lo ≤ R.locals) (hz : cells ≤ R.cells ∧ slots ≤ R.slots)
    (hdg : decode cc pc = .ok (.invokestatic index, 3))
    (kk : ∀ (r : Int32) (H1 : Heap) (locs1 : List Loc), va_P D vwCl w H1 → va_D A w → va_S A s.heap H1 locs1 → W p l e R s m args below meth c H1 locs1 cells slots Q (F0 m (pc + 3) ls (.int r :: rest))) :
    W p l e R s m args below meth c H locs cells slots Q (F0 m pc ls st0) := by
  subst hst
  obtain ⟨f1, f2, f4, f5, f6, f7⟩ := hf
  obtain ⟨hPc, hDc, hjoin⟩ := (ag_cut_0 (w := w)) D vwCl A H hP hD
  have hFc : ∀ q, va_A [] H.size q → A q := by
    rintro q (⟨k, e, h⟩ | h)
    · simp at h
    · exact hA q (Nat.le_trans hS.1 h)
  have hp := ag_preS (av := As) hK hN hS hFc hPc hDc
  refine va_calli (va_runS (As := As) (rest := rest) ⟨hx, hb, hml, hown, hG⟩ (hM H.size (Nat.lt_of_lt_of_le hbl hS.1)) ⟨callB_of As.length hG (gW_good f1) rfl rfl rfl (hG _ f4) (hG _ hlk) ⟨f5, f6, f7⟩ hR, hG _ f2⟩ ⟨?_, ?_⟩ rfl rfl hl.1 rfl (lv_room hcat) hdg hz) hS (fun q _ h => hFc q h) hFc (fun r u t H1 locs1 ht hvm hw hB hz1 hk1 hS1 => ?_)
  · exact fun a U g mk q => ⟨(ag_In_blind a U g mk ⟨q.1, q.2.1⟩).1, (ag_In_blind a U g mk ⟨q.1, q.2.1⟩).2, va_X.moved (u := U) (U := U.calling g mk a) (Vm.Alike.refl U.vm) q.2.2⟩
  · refine fun U hU hW => ⟨(hp.2 U hU hW).1, (hp.2 U hU hW).2, ?_⟩
    rw [hU]
    exact (hX.kept (hS.2.1 b hbl hbA)).moved hW.alike
  · obtain ⟨hP1, ha⟩ := hB
    rw [ht] at hP1
    obtain ⟨g1, g2⟩ := hjoin H1 u hk1 hP1 ha
    exact kk r H1 locs1 g1 g2 hS1
end AGX
set_option maxHeartbeats 4000000 in
set_option maxRecDepth 100000 in
theorem ct_L_cell (l : Launch) (D : va_G) (cI cC cL : ClassId) (b L : Nat) (xs : Nat → Int32) (j : Nat) (hL : L ≤ 260) (hj : j < 1000) : ag_MX l yL_cell cL_cell 2 .int 0 0 D cI cC cL b L xs [.ref b, .int (nI j)] := by
  refine ag_MX.of (plainFor_of_name (by decide)) (Nat.le_of_ble_eq_true rfl) ?_
  intro p e s m below meth c hx hb hr hlocks hml hown hG hX hbl A hbA H locs hP hS ls hl
  have hl : lv_has ls 2 [(0, .ref b), (1, .int (nI j))] := hl
  refine lv_iload_n hx hb dL_cell_0 rfl (lv_at hl 1 rfl) ?_
  refine lv_aload_n hx hb dL_cell_1 rfl (lv_at hl 0 rfl) ?_
  refine va_slen hx hb hX hbl hbA hS dL_cell_2 ?_
  refine lv_icmp_ge (tgt := 12) hx hb dL_cell_3 (by decide) (fun c_3 => ?_) (fun c_3 => ?_)
  · refine lv_ldc (v := 40503) hx hb hown (hG _ k_242) dL_cell_12 ?_
    refine lv_iload_n hx hb dL_cell_14 rfl (lv_at hl 1 rfl) ?_
    refine lv_iconst (v := 3) hx hb dL_cell_15 (by decide) ?_
    refine lv_iadd hx hb dL_cell_16 ?_
    refine lv_imul hx hb dL_cell_17 ?_
    exact ag_iret [] hx hb hr rfl hlocks hP hS rfl rfl rfl dL_cell_18
  · have hjL : j < L := Nat.not_le.mp (fun h => c_3 ((nI_leI (a := L) (by omega) (by omega)).mpr h))
    refine lv_aload_n hx hb dL_cell_6 rfl (lv_at hl 0 rfl) ?_
    refine lv_iload_n hx hb dL_cell_7 rfl (lv_at hl 1 rfl) ?_
    refine va_sld hx hb hX hbl hbA hS (vp_in_nI hjL (by omega)) dL_cell_8 ?_
    refine lv_goto (tgt := 18) hx hb dL_cell_9 (by decide) ?_
    exact ag_iret [] hx hb hr rfl hlocks hP hS rfl rfl rfl dL_cell_18
