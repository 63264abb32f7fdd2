/-! contracts of constructors: one cell in, more out -/
def ag_MC (l : Launch) (y : MethodName) (code : ByteArray) (maxL : Nat) (fr lo mc ms : Nat) (D : va_G) (cI cC cL : ClassId) (av : List Value) (w : va_W) (post : va_W → Prop) : Prop :=
  ∀ sz : Nat, Met l y (.code y code maxL none :: gW) { frames := fr, cells := mc, slots := ms, locals := lo } (va_Pc av (fun U => ag_In D cI cC cL w sz U ∧ va_AO RX1 U)) (va_Qv post (fun w' t => va_P D vwCl w' t.heap ∧ va_D (va_A w sz) w') (va_A w sz)) mc ms (va_A w sz)
theorem ag_MC.of {l : Launch} {y : MethodName} {cc : ByteArray} {maxL : Nat} {fr lo mc ms : Nat} {D : va_G} {cI cC cL : ClassId} {av : List Value} {w : va_W} {post : va_W → Prop} (hy : plainFor y = true) (hav : (lg_sl av).length ≤ maxL)
    (h : ∀ (p : Program) (e : Env) (s : State) (m : MethodId) (below : List Frame) (meth : Method) (c : Code), p.tables.exec = Jvm.exec → c.code = cc → meth.sig.returnType = none → meth.locks = false → c.maxLocals = maxL → s.vm.findClass y.cls = some m.cls → meth.name = y.name →
      (∀ w ∈ gW, w.before av.toArray s = true) → va_K D vwCl (ag_T cI cC cL) s → va_AO RX1 s →
      ∀ A : Nat → Prop, ag_NZ A s → (∀ q, s.heap.size ≤ q → A q) → ∀ (H : Heap) (locs : List Loc), va_P D vwCl w H → va_D A w → va_S A s.heap H locs →
      ∀ ls : Array Slot, lv_has ls maxL (lv_args 0 av) → W p l e { frames := fr, cells := mc, slots := ms, locals := lo } s m av.toArray below meth c H locs 0 0 (MQ below (va_Qv post (fun w' t => va_P D vwCl w' t.heap ∧ va_D A w') A) av.toArray s mc ms A) (F0 m 0 ls [])) : ag_MC l y cc maxL fr lo mc ms D cI cC cL av w post := by
  intro sz
  refine ag_ofW (cc := cc) (maxL := maxL) (ret := none) hy rfl ?_
  intro p e s m args below meth c s₁ B hml hv
  obtain ⟨rfl, ⟨hsz, hP, hK, hD0, hN, hZ⟩, hO⟩ := hv
  have hts := atoms_spec (ws := .code y cc maxL none :: gW) B.pre
  subst hsz
  have hl := lv_entry av (n := maxL) hav
  rw [lg_entry_eq]
  exact h p e s m below meth c B.exec B.bytes B.returns B.notSynchronized hml (findClass_of_methodNamed B.named) (name_of_methodNamed B.named B.method).1 (fun w hw => hts w (List.mem_cons_of_mem _ hw)) hK hO _ ⟨hN, hZ⟩ (fun q hq => Or.inr hq) _ _ hP hD0.self va_S.rf _ hl
section AGC
variable {p : Program} {l : Launch} {e : Env} {R : Room} {s : State} {m : MethodId} {args : Array Value} {below : List Frame} {meth : Method} {c : Code} {H : Heap} {locs : List Loc} {cells slots : Nat} {Q : State → Prop}
variable {cc : ByteArray} {pc : Nat} {ls : Array Slot} {rest : List Value} {D : va_G} {A : Nat → Prop} {a : Nat} {cI cC cL : ClassId} {w : va_W} {H0 : Heap}
theorem ag_cjoin {pre : va_W} {q0 : Nat × va_E} {w1 : va_W} {H1 : Heap} (hA : ∀ q, H.size ≤ q → A q) (hP : va_P D vwCl (pre ++ [q0]) H) (hD : va_D A (pre ++ [q0])) (hk : ∀ q : Nat, q < H.size → ¬ va_A [q0] H.size q → H1[q]? = H[q]?) (hP1 : va_P D vwCl w1 H1) (hD1 : va_D (va_A [q0] H.size) w1) :
    va_P D vwCl (pre ++ w1) H1 ∧ va_D A (pre ++ w1) := by
  have hpre : ∀ (k : Nat) (z : Nat × va_E), pre[k]? = some z → (pre ++ [q0])[k]? = some z := fun k z hz => by
    rw [List.getElem?_append_left (List.getElem?_eq_some_iff.mp hz).1]; exact hz
  have hlast : (pre ++ [q0])[pre.length]? = some q0 := by rw [List.getElem?_append_right (Nat.le_refl _), Nat.sub_self]; rfl
  have hne : ∀ (k : Nat) (z : Nat × va_E), pre[k]? = some z → ¬ va_A [q0] H.size z.1 := by
    rintro k z hz (⟨j, e0, hj⟩ | hj)
    · have hj0 : j = 0 := by
        have := (List.getElem?_eq_some_iff.mp hj).1
        simp at this; omega
      subst hj0
      have hq : q0 = (z.1, e0) := Option.some.inj hj
      have hh := hD.1 k pre.length z q0 (hpre k z hz) hlast (by rw [hq])
      have := (List.getElem?_eq_some_iff.mp hz).1
      omega
    · have := (hP k z (hpre k z hz)).lt
      omega
  have hP0 : va_P D vwCl pre H := fun k z hz => hP k z (hpre k z hz)
  have hD0 : va_D A pre := ⟨fun i j x y hx hy hxy => hD.1 i j x y (hpre i x hx) (hpre j y hy) hxy, fun k z hz => hD.2 k z (hpre k z hz)⟩
  have hw1 : ∀ q, va_A [q0] H.size q → A q := by
    rintro q (⟨j, e0, hj⟩ | hj)
    · have hj0 : j = 0 := by
        have := (List.getElem?_eq_some_iff.mp hj).1
        simp at this; omega
      subst hj0
      have hq : q0 = (q, e0) := Option.some.inj hj
      have := hD.2 _ _ hlast
      rw [hq] at this
      exact this
    · exact hA q hj
  refine ⟨(hP0.kept (fun k z hz => hk z.1 (hP0 k z hz).lt (hne k z hz))).app hP1, hD0.app (hD1.weaken (fun _ q _ h => hw1 _ h)) (fun i j x y hx hy hxy => ?_)⟩
  exact hne i x hx (by rw [hxy]; exact hD1.2 j y hy)
theorem ag_callNC {own host : String} {index maxL fr lo mc ms nL : Nat} {y : MethodName} {code : ByteArray} {post : va_W → Prop} {pre : va_W} {b : Nat} {en : va_E} {lv : List (Nat × Value)}
    (hx : p.tables.exec = Jvm.exec) (hb : c.code = cc) (hml : c.maxLocals = nL) (hown : s.vm.findClass own = some m.cls) (hG : ∀ w ∈ gW, w.before args s = true) (hK : va_K D vwCl (ag_T cI cC cL) s) (hO : va_AO RX1 s) (hN : ag_NZ A s) (hA : ∀ q, s.heap.size ≤ q → A q) (hP : va_P D vwCl (pre ++ [(b, en)]) H) (hD : va_D A (pre ++ [(b, en)])) (hS : va_S A s.heap H locs) (hl : lv_has ls nL lv)
    (hM : ag_MC l y code maxL fr lo mc ms D cI cC cL [.ref b] [(b, en)] post) (f1 : Cond.code y code maxL none ∈ gW) (f2 : Cond.instanceMethod y ∈ gW) (f4 : Cond.initialized y.cls ∈ gW) (f5 : y.cls ≠ "java/lang/invoke/MethodHandle" ∧ y.cls ≠ "java/lang/invoke/VarHandle" ∧ (parseMethodDescriptor y.desc).map (fun d => d.parameters.length) = some 0) (f6 : y.name = "<init>") (hlk : va_Nw (.methodLinkNest own index y host) s)
    (hcat : (rest.map fun v => v.category).sum ≤ 8) (hR : fr + 1 ≤ R.frames ∧ 8 + (maxL + 11) + lo ≤ R.locals) (hz : cells + mc ≤ R.cells ∧ slots + ms ≤ R.slots)
    (hdg : decode cc pc = .ok (.invokespecial index, 3))
    (kk : ∀ (w1 : va_W) (H1 : Heap) (locs1 : List Loc), post w1 → va_P D vwCl (pre ++ w1) H1 → va_D A (pre ++ w1) → va_S A s.heap H1 locs1 → W p l e R s m args below meth c H1 locs1 (cells + mc) (slots + ms) Q (F0 m (pc + 3) ls rest)) :
    W p l e R s m args below meth c H locs cells slots Q (F0 m pc ls (.ref b :: rest)) := by
  have hlast : (pre ++ [(b, en)])[pre.length]? = some (b, en) := by rw [List.getElem?_append_right (Nat.le_refl _), Nat.sub_self]; rfl
  have hPc : va_P D vwCl [(b, en)] H := fun k z hz => by
    have h0 : k = 0 := by
      have := (List.getElem?_eq_some_iff.mp hz).1
      simp at this; omega
    subst h0
    cases hz
    exact hP _ _ hlast
  have hDc : va_D A [(b, en)] := ⟨fun i j x y hx hy _ => by
      have h1 := (List.getElem?_eq_some_iff.mp hx).1
      have h2 := (List.getElem?_eq_some_iff.mp hy).1
      simp at h1 h2; omega, fun k z hz => by
    have h0 : k = 0 := by
      have := (List.getElem?_eq_some_iff.mp hz).1
      simp at this; omega
    subst h0
    cases hz
    exact hD.2 _ _ hlast⟩
  have hFc : ∀ q, va_A [(b, en)] H.size q → A q := by
    rintro q (⟨k, e, h⟩ | h)
    · exact hDc.2 k _ h
    · exact hA q (Nat.le_trans hS.1 h)
  have hp := ag_preS (av := [.ref b]) hK hN hS hFc hPc hDc
  refine va_callv (va_runIN (As := []) (rest := rest) ⟨hx, hb, hml, hown, hG⟩ (hM H.size) ⟨va_cnB 0 hG (gW_good f1) rfl rfl rfl hlk (hG _ f4) f5 hR, f6, hG _ f2⟩ ⟨?_, ?_⟩ rfl rfl hl.1 rfl (lv_room hcat) hdg hz) hS (fun q _ h => hFc q h) hFc (fun u t H1 locs1 ht hvm hw hB hz1 hk1 hS1 => ?_)
  · exact fun a U g mk q => ⟨(ag_In_blind a U g mk ⟨q.1, q.2.1⟩).1, (ag_In_blind a U g mk ⟨q.1, q.2.1⟩).2, va_AO.moved (u := U) (U := U.calling g mk a) (Vm.Alike.refl U.vm) q.2.2⟩
  · exact fun U hU hW => ⟨(hp.2 U hU hW).1, (hp.2 U hU hW).2, hO.moved hW.alike⟩
  · obtain ⟨hP1, hD1⟩ := hB
    rw [ht] at hP1
    obtain ⟨g1, g2⟩ := ag_cjoin (fun q h => hA q (Nat.le_trans hS.1 h)) hP hD hk1 hP1 hD1
    exact kk u H1 locs1 hw g1 g2 hS1
theorem ag_cret {mc ms : Nat} {w' : va_W} {post : va_W → Prop} (hx : p.tables.exec = Jvm.exec) (hb : c.code = cc) (hr : meth.sig.returnType = none) (hlocks : meth.locks = false) (hP : va_P D vwCl w' H) (hD : va_D A w') (hS : va_S A s.heap H locs) (hpost : post w') (hdg : decode cc pc = .ok (.return_, 1)) :
    W p l e R s m args below meth c H locs mc ms (MQ below (va_Qv post (fun w' t => va_P D vwCl w' t.heap ∧ va_D A w') A) args s mc ms A) (F0 m pc ls []) :=
  W.vret hx hb hr (fun t ht hW => ⟨⟨w', rfl, hpost, by rw [ht]; exact hP, hD⟩, hS.F ht⟩) hS.2.2 hdg hlocks
end AGC
