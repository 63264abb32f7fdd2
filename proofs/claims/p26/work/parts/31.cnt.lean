/-! contracts of methods that make cells which are let go: so many cells of so many slots -/
abbrev ag_rn (fr lo mc ms : Nat) : Room := { frames := fr, cells := mc, slots := ms, locals := lo }
def ag_MIn (l : Launch) (y : MethodName) (code : ByteArray) (maxL : Nat) (ret : FieldType) (fr lo mc ms : Nat) (D : va_G) (cI cC cL : ClassId) (av : List Value) (w : va_W) (post : Int32 → va_W → Prop) : Prop :=
  ∀ sz : Nat, Met l y (.code y code maxL (some ret) :: gW) (ag_rn fr lo mc ms) (va_Pc av (ag_In D cI cC cL w sz)) (va_Qi post (ag_Out D w) (va_A w sz)) mc ms (va_A w sz)
def ag_MVn (l : Launch) (y : MethodName) (code : ByteArray) (maxL : Nat) (fr lo mc ms : Nat) (D : va_G) (cI cC cL : ClassId) (av : List Value) (w : va_W) (post : va_W → Prop) : Prop :=
  ∀ sz : Nat, Met l y (.code y code maxL none :: gW) (ag_rn fr lo mc ms) (va_Pc av (ag_In D cI cC cL w sz)) (va_Qv post (ag_Out D w) (va_A w sz)) mc ms (va_A w sz)
theorem ag_MIn.of {l : Launch} {y : MethodName} {cc : ByteArray} {maxL : Nat} {ret : FieldType} {fr lo mc ms : Nat} {D : va_G} {cI cC cL : ClassId} {av : List Value} {w : va_W} {post : Int32 → va_W → Prop} (hy : plainFor y = true) (hav : (lg_sl av).length ≤ maxL)
    (h : ag_Body l y.cls cc maxL (some ret) y.name (ag_rn fr lo mc ms) D cI cC cL av w (fun A => va_Qi post (ag_Out D w) A) mc ms) : ag_MIn l y cc maxL ret fr lo mc ms D cI cC cL av w post := fun _ => ag_body hy hav h
theorem ag_MVn.of {l : Launch} {y : MethodName} {cc : ByteArray} {maxL : Nat} {fr lo mc ms : Nat} {D : va_G} {cI cC cL : ClassId} {av : List Value} {w : va_W} {post : va_W → Prop} (hy : plainFor y = true) (hav : (lg_sl av).length ≤ maxL)
    (h : ag_Body l y.cls cc maxL none y.name (ag_rn fr lo mc ms) D cI cC cL av w (fun A => va_Qv post (ag_Out D w) A) mc ms) : ag_MVn l y cc maxL fr lo mc ms D cI cC cL av w post := fun _ => ag_body hy hav h
section AGK
variable {p : Program} {l : Launch} {e : Env} {R : Room} {s : State} {m : MethodId} {args : Array Value} {below : List Frame} {meth : Method} {c : Code} {H : Heap} {locs : List Loc} {cells slots : Nat} {Q : State → Prop}
variable {cc : ByteArray} {pc : Nat} {ls : Array Slot} {rest : List Value} {D : va_G} {A : Nat → Prop} {a : Nat} {cI cC cL : ClassId} {w : va_W} {H0 : Heap}
theorem ag_callSin {own : String} {index maxL fr lo mc ms nL : Nat} {y : MethodName} {code : ByteArray} {ret : FieldType} {post : Int32 → va_W → Prop} {wc : va_W} {As : List Value} {st0 : List Value} {lv : List (Nat × Value)}
    (hx : p.tables.exec = Jvm.exec) (hb : c.code = cc) (hml : c.maxLocals = nL) (hown : s.vm.findClass own = some m.cls) (hG : ∀ w ∈ gW, w.before args s = true) (hK : va_K D vwCl (ag_T cI cC cL) s) (hN : ag_NZ A s) (hA : ∀ q, s.heap.size ≤ q → A q) (hP : va_P D vwCl w H) (hD : va_D A w) (hS : va_S A s.heap H locs) (hl : lv_has ls nL lv)
    (hM : ag_MIn l y code maxL ret fr lo mc ms D cI cC cL As wc post) (hf : ag_fS y code maxL (some ret) As.length) (hlk : Cond.methodLink own index y ∈ gW) {put : va_W → va_W} (hcut : ag_cut w wc put)
    (hst : st0 = As.reverse ++ rest) (hcat : (rest.map fun v => v.category).sum ≤ 8) (hR : fr + 1 ≤ R.frames ∧ 8 + (maxL + 11) + lo ≤ R.locals) (hz : cells + mc ≤ R.cells ∧ slots + ms ≤ R.slots)
    (hdg : decode cc pc = .ok (.invokestatic index, 3))
    (kk : ∀ (r : Int32) (w1 : va_W) (H1 : Heap) (locs1 : List Loc), post r w1 → va_P D vwCl (put w1) H1 → va_D A (put w1) → va_S A s.heap H1 locs1 → W p l e R s m args below meth c H1 locs1 (cells + mc) (slots + ms) Q (F0 m (pc + 3) ls (.int r :: rest))) :
    W p l e R s m args below meth c H locs cells slots Q (F0 m pc ls st0) := by
  subst hst
  obtain ⟨f1, f2, f4, f5, f6, f7⟩ := hf
  obtain ⟨hPc, hDc, hjoin⟩ := hcut D vwCl A H hP hD
  have hFc : ∀ q, va_A wc H.size q → A q := by
    rintro q (⟨k, e, h⟩ | h)
    · exact hDc.2 k _ h
    · exact hA q (Nat.le_trans hS.1 h)
  have hp := ag_preS (av := As) hK hN hS hFc hPc hDc
  refine va_calli (va_runS (As := As) (rest := rest) ⟨hx, hb, hml, hown, hG⟩ (hM H.size) ⟨callB_of As.length hG (gW_good f1) rfl rfl rfl (hG _ f4) (hG _ hlk) ⟨f5, f6, f7⟩ hR, hG _ f2⟩ hp rfl rfl hl.1 rfl (lv_room hcat) hdg hz) hS (fun q _ h => hFc q h) hFc (fun r u t H1 locs1 ht hvm hw hB hz1 hk1 hS1 => ?_)
  obtain ⟨hP1, ha⟩ := hB
  rw [ht] at hP1
  obtain ⟨g1, g2⟩ := hjoin H1 u hk1 hP1 ha
  exact kk r u H1 locs1 hw g1 g2 hS1
theorem ag_callSvn {own : String} {index maxL fr lo mc ms nL : Nat} {y : MethodName} {code : ByteArray} {post : va_W → Prop} {wc : va_W} {As : List Value} {st0 : List Value} {lv : List (Nat × Value)}
    (hx : p.tables.exec = Jvm.exec) (hb : c.code = cc) (hml : c.maxLocals = nL) (hown : s.vm.findClass own = some m.cls) (hG : ∀ w ∈ gW, w.before args s = true) (hK : va_K D vwCl (ag_T cI cC cL) s) (hN : ag_NZ A s) (hA : ∀ q, s.heap.size ≤ q → A q) (hP : va_P D vwCl w H) (hD : va_D A w) (hS : va_S A s.heap H locs) (hl : lv_has ls nL lv)
    (hM : ag_MVn l y code maxL fr lo mc ms D cI cC cL As wc post) (hf : ag_fS y code maxL none As.length) (hlk : Cond.methodLink own index y ∈ gW) {put : va_W → va_W} (hcut : ag_cut w wc put)
    (hst : st0 = As.reverse ++ rest) (hcat : (rest.map fun v => v.category).sum ≤ 8) (hR : fr + 1 ≤ R.frames ∧ 8 + (maxL + 11) + lo ≤ R.locals) (hz : cells + mc ≤ R.cells ∧ slots + ms ≤ R.slots)
    (hdg : decode cc pc = .ok (.invokestatic index, 3))
    (kk : ∀ (w1 : va_W) (H1 : Heap) (locs1 : List Loc), post w1 → va_P D vwCl (put w1) H1 → va_D A (put w1) → va_S A s.heap H1 locs1 → W p l e R s m args below meth c H1 locs1 (cells + mc) (slots + ms) Q (F0 m (pc + 3) ls rest)) :
    W p l e R s m args below meth c H locs cells slots Q (F0 m pc ls st0) := by
  subst hst
  obtain ⟨f1, f2, f4, f5, f6, f7⟩ := hf
  obtain ⟨hPc, hDc, hjoin⟩ := hcut D vwCl A H hP hD
  have hFc : ∀ q, va_A wc H.size q → A q := by
    rintro q (⟨k, e, h⟩ | h)
    · exact hDc.2 k _ h
    · exact hA q (Nat.le_trans hS.1 h)
  have hp := ag_preS (av := As) hK hN hS hFc hPc hDc
  refine va_callv (va_runS (As := As) (rest := rest) ⟨hx, hb, hml, hown, hG⟩ (hM H.size) ⟨callB_of As.length hG (gW_good f1) rfl rfl rfl (hG _ f4) (hG _ hlk) ⟨f5, f6, f7⟩ hR, hG _ f2⟩ hp rfl rfl hl.1 rfl (lv_room hcat) hdg hz) hS (fun q _ h => hFc q h) hFc (fun u t H1 locs1 ht hvm hw hB hz1 hk1 hS1 => ?_)
  obtain ⟨hP1, ha⟩ := hB
  rw [ht] at hP1
  obtain ⟨g1, g2⟩ := hjoin H1 u hk1 hP1 ha
  exact kk u H1 locs1 hw g1 g2 hS1
theorem ag_iretn {w0 w' : va_W} (as : List Nat) {mc ms : Nat} {post : Int32 → va_W → Prop} {r : Int32} {ty : FieldType} (hx : p.tables.exec = Jvm.exec) (hb : c.code = cc) (hr : meth.sig.returnType = some ty) (hn : narrow ty (.int r) = .int r) (hlocks : meth.locks = false) (hP : va_P D vwCl w' H) (hS : va_S A s.heap H locs) (ha : w'.map Prod.fst = as) (ha2 : w0.map Prod.fst = as) (hpost : post r w') (hdg : decode cc pc = .ok (.ireturn, 1)) :
    W p l e R s m args below meth c H locs mc ms (MQ below (va_Qi post (ag_Out D w0) A) args s mc ms A) (F0 m pc ls [.int r]) :=
  W.zret hx hb hr hn (fun t ht hW => ⟨⟨r, w', rfl, hpost, by rw [ht]; exact hP, ha.trans ha2.symm⟩, hS.F ht⟩) hS.2.2 hdg hlocks
theorem ag_vretn {w0 w' : va_W} (as : List Nat) {mc ms : Nat} {post : va_W → Prop} (hx : p.tables.exec = Jvm.exec) (hb : c.code = cc) (hr : meth.sig.returnType = none) (hlocks : meth.locks = false) (hP : va_P D vwCl w' H) (hS : va_S A s.heap H locs) (ha : w'.map Prod.fst = as) (ha2 : w0.map Prod.fst = as) (hpost : post w') (hdg : decode cc pc = .ok (.return_, 1)) :
    W p l e R s m args below meth c H locs mc ms (MQ below (va_Qv post (ag_Out D w0) A) args s mc ms A) (F0 m pc ls []) :=
  W.vret hx hb hr (fun t ht hW => ⟨⟨w', rfl, hpost, by rw [ht]; exact hP, ha.trans ha2.symm⟩, hS.F ht⟩) hS.2.2 hdg hlocks
/-- another word for the number on top -/
theorem ag_tope {x : Int32} (v : Int32) (h : x = v) (k : W p l e R s m args below meth c H locs cells slots Q (F0 m pc ls (.int v :: rest))) : W p l e R s m args below meth c H locs cells slots Q (F0 m pc ls (.int x :: rest)) := by
  subst h
  exact k
end AGK
