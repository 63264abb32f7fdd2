/-! the cells, by functions of their numbers; the rows of fields and arrays -/
abbrev oL (h a b c : Nat) (f : Nat → Int32) : Nat × va_E := (h, .inr (1, [.int (f 0), .int (f 1), .int (f 2), .int (f 3), .int (f 4), .int (f 5), .int (f 6), .int (f 7), .ref a, .ref b, .ref c]))
abbrev oK (h : Nat) (f : Nat → Int32) : Nat × va_E := (h, .inr (4, [.int (f 0), .int (f 1), .int (f 2), .int (f 3), .int (f 4), .int (f 5), .int (f 6)]))
abbrev oH (h a : Nat) (f : Nat → Int32) : Nat × va_E := (h, .inr (0, [.ref a, .int (f 0), .int (f 1)]))
abbrev oT (h a : Nat) (f : Nat → Int32) : Nat × va_E := (h, .inr (3, [.ref a, .int (f 0), .int (f 1), .int (f 2), .int (f 3), .int (f 4)]))
abbrev oP (h : Nat) (f : Nat → Int32) : Nat × va_E := (h, .inr (2, [.int (f 0), .int (f 1), .int (f 2), .int (f 3)]))
abbrev oX (h a b c d e g : Nat) : Nat × va_E := (h, .inr (5, [.ref a, .ref b, .ref c, .ref d, .ref e, .ref g]))
abbrev aI (cI : ClassId) (a n : Nat) (f : Nat → Int32) : Nat × va_E := (a, .inl (cI, n, .inl f))
abbrev aC (cC : ClassId) (a n : Nat) (f : Nat → Int32) : Nat × va_E := (a, .inl (cC, n, .inl f))
abbrev aL (cL : ClassId) (a : Nat) (g : Nat → Option Nat) : Nat × va_E := (a, .inl (cL, 4, .inr (.inr (.inr (.inr g)))))
def ag_abs (x : Int32) : Int32 := if 0 ≤ x then x else 0 - x
def ag_max (x y : Int32) : Int32 := if x < y then y else x
def ag_min (x y : Int32) : Int32 := if y < x then y else x
theorem ownX0 : ∀ k, k < 3 → (TX0 k).1 = RX0 := by decide +kernel
theorem ownX1 : ∀ k, k < 11 → (TX1 k).1 = RX1 := by decide +kernel
theorem ownX2 : ∀ k, k < 4 → (TX2 k).1 = RX2 := by decide +kernel
theorem ownX3 : ∀ k, k < 6 → (TX3 k).1 = RX3 := by decide +kernel
theorem ownX4 : ∀ k, k < 7 → (TX4 k).1 = RX4 := by decide +kernel
theorem ownX5 : ∀ k, k < 6 → (TX5 k).1 = RX5 := by decide +kernel
section AGF
variable {p : Program} {l : Launch} {e : Env} {R : Room} {s : State} {m : MethodId} {args : Array Value} {below : List Frame} {meth : Method} {c : Code} {H : Heap} {locs : List Loc} {cells slots : Nat} {Q : State → Prop}
variable {cc : ByteArray} {pc : Nat} {ls : Array Slot} {rest : List Value} {D : va_G} {A : Nat → Prop} {a : Nat} {cI cC cL : ClassId} {w : va_W} {H0 : Heap}
theorem ag_getX0 (hx : p.tables.exec = Jvm.exec) (hb : c.code = cc) (hG : ∀ w ∈ gW, w.before args s = true) {own : String} {index : Nat} {fs : List Value} {v : Value} (hown : s.vm.findClass own = some m.cls) (hK : va_K D vwCl (ag_T cI cC cL) s) (hP : va_P D vwCl w H) (q0 k : Nat) (he : w[q0]? = some (a, .inr (0, fs))) (hk : k < 3) (hlk : Cond.fieldLink own index RX0 (TX0 k).2.1 (TX0 k).2.2.1 ∈ gW) (hv : fs[k]? = some v) (hdg : decode cc pc = .ok (.getfield index, 3))
    (kk : W p l e R s m args below meth c H locs cells slots Q (F0 m (pc + 3) ls (v :: rest))) : W p l e R s m args below meth c H locs cells slots Q (F0 m pc ls (.ref a :: rest)) :=
  va_get (T := TX0) (N := 3) hx hb hG inX0 hown hK hP q0 he rfl k hk (hG _ hlk) (fun x h => (ownX0 k hk) ▸ h) hv hdg kk
theorem ag_putX0 (hx : p.tables.exec = Jvm.exec) (hb : c.code = cc) (hG : ∀ w ∈ gW, w.before args s = true) {own : String} {index : Nat} {fs : List Value} {v : Value} (hown : s.vm.findClass own = some m.cls) (hK : va_K D vwCl (ag_T cI cC cL) s) (hP : va_P D vwCl w H) (hD : va_D A w) (hS : va_S A H0 H locs) (q0 k : Nat) (he : w[q0]? = some (a, .inr (0, fs))) (hk : k < 3) (hlk : Cond.fieldLink own index RX0 (TX0 k).2.1 (TX0 k).2.2.1 ∈ gW) (hfin : (TX0 k).2.2.2 = false) (hn : narrow (tyX0 k) v = v) (hfit : fits (tyX0 k) v = true) (hl : k < fs.length) (hdg : decode cc pc = .ok (.putfield index, 3))
    (kk : ∀ (H1 : Heap) (locs1 : List Loc), va_P D vwCl (w.set q0 (a, .inr (0, fs.set k v))) H1 → va_D A (w.set q0 (a, .inr (0, fs.set k v))) → va_S A H0 H1 locs1 → W p l e R s m args below meth c H1 locs1 cells slots Q (F0 m (pc + 3) ls rest)) : W p l e R s m args below meth c H locs cells slots Q (F0 m pc ls (v :: .ref a :: rest)) :=
  va_put (T := TX0) (N := 3) hx hb hG inX0 tyX0 tyX0_ok nmX0 hown hK hP hD hS q0 he rfl k hk (hG _ hlk) (fun x h => (ownX0 k hk) ▸ h) hfin (tyX0_ok k hk) hn hfit hl hdg kk
theorem ag_getX1 (hx : p.tables.exec = Jvm.exec) (hb : c.code = cc) (hG : ∀ w ∈ gW, w.before args s = true) {own : String} {index : Nat} {fs : List Value} {v : Value} (hown : s.vm.findClass own = some m.cls) (hK : va_K D vwCl (ag_T cI cC cL) s) (hP : va_P D vwCl w H) (q0 k : Nat) (he : w[q0]? = some (a, .inr (1, fs))) (hk : k < 11) (hlk : Cond.fieldLink own index RX1 (TX1 k).2.1 (TX1 k).2.2.1 ∈ gW) (hv : fs[k]? = some v) (hdg : decode cc pc = .ok (.getfield index, 3))
    (kk : W p l e R s m args below meth c H locs cells slots Q (F0 m (pc + 3) ls (v :: rest))) : W p l e R s m args below meth c H locs cells slots Q (F0 m pc ls (.ref a :: rest)) :=
  va_get (T := TX1) (N := 11) hx hb hG inX1 hown hK hP q0 he rfl k hk (hG _ hlk) (fun x h => (ownX1 k hk) ▸ h) hv hdg kk
theorem ag_putX1 (hx : p.tables.exec = Jvm.exec) (hb : c.code = cc) (hG : ∀ w ∈ gW, w.before args s = true) {own : String} {index : Nat} {fs : List Value} {v : Value} (hown : s.vm.findClass own = some m.cls) (hK : va_K D vwCl (ag_T cI cC cL) s) (hP : va_P D vwCl w H) (hD : va_D A w) (hS : va_S A H0 H locs) (q0 k : Nat) (he : w[q0]? = some (a, .inr (1, fs))) (hk : k < 11) (hlk : Cond.fieldLink own index RX1 (TX1 k).2.1 (TX1 k).2.2.1 ∈ gW) (hfin : (TX1 k).2.2.2 = false) (hn : narrow (tyX1 k) v = v) (hfit : fits (tyX1 k) v = true) (hl : k < fs.length) (hdg : decode cc pc = .ok (.putfield index, 3))
    (kk : ∀ (H1 : Heap) (locs1 : List Loc), va_P D vwCl (w.set q0 (a, .inr (1, fs.set k v))) H1 → va_D A (w.set q0 (a, .inr (1, fs.set k v))) → va_S A H0 H1 locs1 → W p l e R s m args below meth c H1 locs1 cells slots Q (F0 m (pc + 3) ls rest)) : W p l e R s m args below meth c H locs cells slots Q (F0 m pc ls (v :: .ref a :: rest)) :=
  va_put (T := TX1) (N := 11) hx hb hG inX1 tyX1 tyX1_ok nmX1 hown hK hP hD hS q0 he rfl k hk (hG _ hlk) (fun x h => (ownX1 k hk) ▸ h) hfin (tyX1_ok k hk) hn hfit hl hdg kk
theorem ag_getX2 (hx : p.tables.exec = Jvm.exec) (hb : c.code = cc) (hG : ∀ w ∈ gW, w.before args s = true) {own : String} {index : Nat} {fs : List Value} {v : Value} (hown : s.vm.findClass own = some m.cls) (hK : va_K D vwCl (ag_T cI cC cL) s) (hP : va_P D vwCl w H) (q0 k : Nat) (he : w[q0]? = some (a, .inr (2, fs))) (hk : k < 4) (hlk : Cond.fieldLink own index RX2 (TX2 k).2.1 (TX2 k).2.2.1 ∈ gW) (hv : fs[k]? = some v) (hdg : decode cc pc = .ok (.getfield index, 3))
    (kk : W p l e R s m args below meth c H locs cells slots Q (F0 m (pc + 3) ls (v :: rest))) : W p l e R s m args below meth c H locs cells slots Q (F0 m pc ls (.ref a :: rest)) :=
  va_get (T := TX2) (N := 4) hx hb hG inX2 hown hK hP q0 he rfl k hk (hG _ hlk) (fun x h => (ownX2 k hk) ▸ h) hv hdg kk
theorem ag_putX2 (hx : p.tables.exec = Jvm.exec) (hb : c.code = cc) (hG : ∀ w ∈ gW, w.before args s = true) {own : String} {index : Nat} {fs : List Value} {v : Value} (hown : s.vm.findClass own = some m.cls) (hK : va_K D vwCl (ag_T cI cC cL) s) (hP : va_P D vwCl w H) (hD : va_D A w) (hS : va_S A H0 H locs) (q0 k : Nat) (he : w[q0]? = some (a, .inr (2, fs))) (hk : k < 4) (hlk : Cond.fieldLink own index RX2 (TX2 k).2.1 (TX2 k).2.2.1 ∈ gW) (hfin : (TX2 k).2.2.2 = false) (hn : narrow (tyX2 k) v = v) (hfit : fits (tyX2 k) v = true) (hl : k < fs.length) (hdg : decode cc pc = .ok (.putfield index, 3))
    (kk : ∀ (H1 : Heap) (locs1 : List Loc), va_P D vwCl (w.set q0 (a, .inr (2, fs.set k v))) H1 → va_D A (w.set q0 (a, .inr (2, fs.set k v))) → va_S A H0 H1 locs1 → W p l e R s m args below meth c H1 locs1 cells slots Q (F0 m (pc + 3) ls rest)) : W p l e R s m args below meth c H locs cells slots Q (F0 m pc ls (v :: .ref a :: rest)) :=
  va_put (T := TX2) (N := 4) hx hb hG inX2 tyX2 tyX2_ok nmX2 hown hK hP hD hS q0 he rfl k hk (hG _ hlk) (fun x h => (ownX2 k hk) ▸ h) hfin (tyX2_ok k hk) hn hfit hl hdg kk
theorem ag_getX3 (hx : p.tables.exec = Jvm.exec) (hb : c.code = cc) (hG : ∀ w ∈ gW, w.before args s = true) {own : String} {index : Nat} {fs : List Value} {v : Value} (hown : s.vm.findClass own = some m.cls) (hK : va_K D vwCl (ag_T cI cC cL) s) (hP : va_P D vwCl w H) (q0 k : Nat) (he : w[q0]? = some (a, .inr (3, fs))) (hk : k < 6) (hlk : Cond.fieldLink own index RX3 (TX3 k).2.1 (TX3 k).2.2.1 ∈ gW) (hv : fs[k]? = some v) (hdg : decode cc pc = .ok (.getfield index, 3))
    (kk : W p l e R s m args below meth c H locs cells slots Q (F0 m (pc + 3) ls (v :: rest))) : W p l e R s m args below meth c H locs cells slots Q (F0 m pc ls (.ref a :: rest)) :=
  va_get (T := TX3) (N := 6) hx hb hG inX3 hown hK hP q0 he rfl k hk (hG _ hlk) (fun x h => (ownX3 k hk) ▸ h) hv hdg kk
theorem ag_putX3 (hx : p.tables.exec = Jvm.exec) (hb : c.code = cc) (hG : ∀ w ∈ gW, w.before args s = true) {own : String} {index : Nat} {fs : List Value} {v : Value} (hown : s.vm.findClass own = some m.cls) (hK : va_K D vwCl (ag_T cI cC cL) s) (hP : va_P D vwCl w H) (hD : va_D A w) (hS : va_S A H0 H locs) (q0 k : Nat) (he : w[q0]? = some (a, .inr (3, fs))) (hk : k < 6) (hlk : Cond.fieldLink own index RX3 (TX3 k).2.1 (TX3 k).2.2.1 ∈ gW) (hfin : (TX3 k).2.2.2 = false) (hn : narrow (tyX3 k) v = v) (hfit : fits (tyX3 k) v = true) (hl : k < fs.length) (hdg : decode cc pc = .ok (.putfield index, 3))
    (kk : ∀ (H1 : Heap) (locs1 : List Loc), va_P D vwCl (w.set q0 (a, .inr (3, fs.set k v))) H1 → va_D A (w.set q0 (a, .inr (3, fs.set k v))) → va_S A H0 H1 locs1 → W p l e R s m args below meth c H1 locs1 cells slots Q (F0 m (pc + 3) ls rest)) : W p l e R s m args below meth c H locs cells slots Q (F0 m pc ls (v :: .ref a :: rest)) :=
  va_put (T := TX3) (N := 6) hx hb hG inX3 tyX3 tyX3_ok nmX3 hown hK hP hD hS q0 he rfl k hk (hG _ hlk) (fun x h => (ownX3 k hk) ▸ h) hfin (tyX3_ok k hk) hn hfit hl hdg kk
theorem ag_getX4 (hx : p.tables.exec = Jvm.exec) (hb : c.code = cc) (hG : ∀ w ∈ gW, w.before args s = true) {own : String} {index : Nat} {fs : List Value} {v : Value} (hown : s.vm.findClass own = some m.cls) (hK : va_K D vwCl (ag_T cI cC cL) s) (hP : va_P D vwCl w H) (q0 k : Nat) (he : w[q0]? = some (a, .inr (4, fs))) (hk : k < 7) (hlk : Cond.fieldLink own index RX4 (TX4 k).2.1 (TX4 k).2.2.1 ∈ gW) (hv : fs[k]? = some v) (hdg : decode cc pc = .ok (.getfield index, 3))
    (kk : W p l e R s m args below meth c H locs cells slots Q (F0 m (pc + 3) ls (v :: rest))) : W p l e R s m args below meth c H locs cells slots Q (F0 m pc ls (.ref a :: rest)) :=
  va_get (T := TX4) (N := 7) hx hb hG inX4 hown hK hP q0 he rfl k hk (hG _ hlk) (fun x h => (ownX4 k hk) ▸ h) hv hdg kk
theorem ag_putX4 (hx : p.tables.exec = Jvm.exec) (hb : c.code = cc) (hG : ∀ w ∈ gW, w.before args s = true) {own : String} {index : Nat} {fs : List Value} {v : Value} (hown : s.vm.findClass own = some m.cls) (hK : va_K D vwCl (ag_T cI cC cL) s) (hP : va_P D vwCl w H) (hD : va_D A w) (hS : va_S A H0 H locs) (q0 k : Nat) (he : w[q0]? = some (a, .inr (4, fs))) (hk : k < 7) (hlk : Cond.fieldLink own index RX4 (TX4 k).2.1 (TX4 k).2.2.1 ∈ gW) (hfin : (TX4 k).2.2.2 = false) (hn : narrow (tyX4 k) v = v) (hfit : fits (tyX4 k) v = true) (hl : k < fs.length) (hdg : decode cc pc = .ok (.putfield index, 3))
    (kk : ∀ (H1 : Heap) (locs1 : List Loc), va_P D vwCl (w.set q0 (a, .inr (4, fs.set k v))) H1 → va_D A (w.set q0 (a, .inr (4, fs.set k v))) → va_S A H0 H1 locs1 → W p l e R s m args below meth c H1 locs1 cells slots Q (F0 m (pc + 3) ls rest)) : W p l e R s m args below meth c H locs cells slots Q (F0 m pc ls (v :: .ref a :: rest)) :=
  va_put (T := TX4) (N := 7) hx hb hG inX4 tyX4 tyX4_ok nmX4 hown hK hP hD hS q0 he rfl k hk (hG _ hlk) (fun x h => (ownX4 k hk) ▸ h) hfin (tyX4_ok k hk) hn hfit hl hdg kk
theorem ag_getX5 (hx : p.tables.exec = Jvm.exec) (hb : c.code = cc) (hG : ∀ w ∈ gW, w.before args s = true) {own : String} {index : Nat} {fs : List Value} {v : Value} (hown : s.vm.findClass own = some m.cls) (hK : va_K D vwCl (ag_T cI cC cL) s) (hP : va_P D vwCl w H) (q0 k : Nat) (he : w[q0]? = some (a, .inr (5, fs))) (hk : k < 6) (hlk : Cond.fieldLink own index RX5 (TX5 k).2.1 (TX5 k).2.2.1 ∈ gW) (hv : fs[k]? = some v) (hdg : decode cc pc = .ok (.getfield index, 3))
    (kk : W p l e R s m args below meth c H locs cells slots Q (F0 m (pc + 3) ls (v :: rest))) : W p l e R s m args below meth c H locs cells slots Q (F0 m pc ls (.ref a :: rest)) :=
  va_get (T := TX5) (N := 6) hx hb hG inX5 hown hK hP q0 he rfl k hk (hG _ hlk) (fun x h => (ownX5 k hk) ▸ h) hv hdg kk
theorem ag_putX5 (hx : p.tables.exec = Jvm.exec) (hb : c.code = cc) (hG : ∀ w ∈ gW, w.before args s = true) {own : String} {index : Nat} {fs : List Value} {v : Value} (hown : s.vm.findClass own = some m.cls) (hK : va_K D vwCl (ag_T cI cC cL) s) (hP : va_P D vwCl w H) (hD : va_D A w) (hS : va_S A H0 H locs) (q0 k : Nat) (he : w[q0]? = some (a, .inr (5, fs))) (hk : k < 6) (hlk : Cond.fieldLink own index RX5 (TX5 k).2.1 (TX5 k).2.2.1 ∈ gW) (hfin : (TX5 k).2.2.2 = false) (hn : narrow (tyX5 k) v = v) (hfit : fits (tyX5 k) v = true) (hl : k < fs.length) (hdg : decode cc pc = .ok (.putfield index, 3))
    (kk : ∀ (H1 : Heap) (locs1 : List Loc), va_P D vwCl (w.set q0 (a, .inr (5, fs.set k v))) H1 → va_D A (w.set q0 (a, .inr (5, fs.set k v))) → va_S A H0 H1 locs1 → W p l e R s m args below meth c H1 locs1 cells slots Q (F0 m (pc + 3) ls rest)) : W p l e R s m args below meth c H locs cells slots Q (F0 m pc ls (v :: .ref a :: rest)) :=
  va_put (T := TX5) (N := 6) hx hb hG inX5 tyX5 tyX5_ok nmX5 hown hK hP hD hS q0 he rfl k hk (hG _ hlk) (fun x h => (ownX5 k hk) ▸ h) hfin (tyX5_ok k hk) hn hfit hl hdg kk
theorem ag_ild (hx : p.tables.exec = Jvm.exec) (hb : c.code = cc) (hK : va_K D vwCl (ag_T cI cC cL) s) (hP : va_P D vwCl w H) {k n : Nat} {f : Nat → Int32} {v i : Int32} (q0 : Nat) (ha : w[q0]? = some (a, .inl (cI, n, .inl f))) (hi : i = nI k) (hk : k < n) (hn : n < 2 ^ 31) (hv : f k = v) (hdg : decode cc pc = .ok (.iaload, 1))
    (kk : W p l e R s m args below meth c H locs cells slots Q (F0 m (pc + 1) ls (.int v :: rest))) : W p l e R s m args below meth c H locs cells slots Q (F0 m pc ls (.int i :: .ref a :: rest)) := by
  subst hi
  have hc : (nI k).toNatClampNeg = k := nI_clamp (Nat.lt_trans hk hn)
  refine va_iald hx hb hK hP q0 0 ha rfl (vp_in_nI hk hn) hdg ?_
  rw [hc, hv]
  exact kk
theorem ag_cld (hx : p.tables.exec = Jvm.exec) (hb : c.code = cc) (hK : va_K D vwCl (ag_T cI cC cL) s) (hP : va_P D vwCl w H) {k n : Nat} {f : Nat → Int32} {v i : Int32} (q0 : Nat) (ha : w[q0]? = some (a, .inl (cC, n, .inl f))) (hi : i = nI k) (hk : k < n) (hn : n < 2 ^ 31) (hv : f k = v) (hdg : decode cc pc = .ok (.caload, 1))
    (kk : W p l e R s m args below meth c H locs cells slots Q (F0 m (pc + 1) ls (.int v :: rest))) : W p l e R s m args below meth c H locs cells slots Q (F0 m pc ls (.int i :: .ref a :: rest)) := by
  subst hi
  have hc : (nI k).toNatClampNeg = k := nI_clamp (Nat.lt_trans hk hn)
  refine va_cald hx hb hK hP q0 1 ha rfl (vp_in_nI hk hn) hdg ?_
  rw [hc, hv]
  exact kk
theorem ag_ist (hx : p.tables.exec = Jvm.exec) (hb : c.code = cc) (hK : va_K D vwCl (ag_T cI cC cL) s) (hP : va_P D vwCl w H) (hD : va_D A w) (hS : va_S A H0 H locs) {k n : Nat} {f : Nat → Int32} {i x : Int32} (q0 : Nat) (ha : w[q0]? = some (a, .inl (cI, n, .inl f))) (hi : i = nI k) (hk : k < n) (hn : n < 2 ^ 31) (hdg : decode cc pc = .ok (.iastore, 1))
    (kk : ∀ (H1 : Heap) (locs1 : List Loc), va_P D vwCl (w.set q0 (a, .inl (cI, n, .inl (upd f k x)))) H1 → va_D A (w.set q0 (a, .inl (cI, n, .inl (upd f k x)))) → va_S A H0 H1 locs1 → W p l e R s m args below meth c H1 locs1 cells slots Q (F0 m (pc + 1) ls rest)) : W p l e R s m args below meth c H locs cells slots Q (F0 m pc ls (.int x :: .int i :: .ref a :: rest)) := by
  subst hi
  have hc : (nI k).toNatClampNeg = k := nI_clamp (Nat.lt_trans hk hn)
  refine va_iast hx hb hK hP hD hS q0 0 ha rfl (vp_in_nI hk hn) hdg ?_
  rw [hc]
  exact kk
theorem ag_cst (hx : p.tables.exec = Jvm.exec) (hb : c.code = cc) (hK : va_K D vwCl (ag_T cI cC cL) s) (hP : va_P D vwCl w H) (hD : va_D A w) (hS : va_S A H0 H locs) {k n : Nat} {f : Nat → Int32} {i x : Int32} (q0 : Nat) (ha : w[q0]? = some (a, .inl (cC, n, .inl f))) (hi : i = nI k) (hk : k < n) (hn : n < 2 ^ 31) (hx2 : vp_nar .char x = x) (hdg : decode cc pc = .ok (.castore, 1))
    (kk : ∀ (H1 : Heap) (locs1 : List Loc), va_P D vwCl (w.set q0 (a, .inl (cC, n, .inl (upd f k x)))) H1 → va_D A (w.set q0 (a, .inl (cC, n, .inl (upd f k x)))) → va_S A H0 H1 locs1 → W p l e R s m args below meth c H1 locs1 cells slots Q (F0 m (pc + 1) ls rest)) : W p l e R s m args below meth c H locs cells slots Q (F0 m pc ls (.int x :: .int i :: .ref a :: rest)) := by
  subst hi
  have hc : (nI k).toNatClampNeg = k := nI_clamp (Nat.lt_trans hk hn)
  refine va_cast hx hb hK hP hD hS q0 1 ha rfl (vp_in_nI hk hn) hdg ?_
  rw [hc, hx2]
  exact kk
theorem ag_copy (hx : p.tables.exec = Jvm.exec) (hb : c.code = cc) (hml : c.maxLocals = ls.size) {own : String} {index : Nat} (hown : s.vm.findClass own = some m.cls) (hlink : (Cond.methodLink own index arraycopyName).before args s = true) (hG : ∀ w ∈ gW, w.before args s = true)
    (hK : va_K D vwCl (ag_T cI cC cL) s) (hP : va_P D vwCl w H) (hD : va_D A w) (hS : va_S A H0 H locs) {n : Nat} {a0 : Nat} {f g : Nat → Int32} {z z1 z2 : Int32} (q0 q1 : Nat) (ha0 : w[q0]? = some (a0, .inl (cI, n, .inl f))) (ha1 : w[q1]? = some (a, .inl (cI, n, .inl g))) (hz : z = nI n) (hz1 : z1 = 0 ∧ z2 = 0) (hn : n < 2 ^ 31) (hfr : 1 ≤ R.frames) (hlo : (rest.map fun v => v.category).sum + 30 ≤ R.locals) (hdg : decode cc pc = .ok (.invokestatic index, 3))
    (kk : ∀ (H1 : Heap) (locs1 : List Loc), va_P D vwCl (w.set q1 (a, .inl (cI, n, .inl f))) H1 → va_D A (w.set q1 (a, .inl (cI, n, .inl f))) → va_S A H0 H1 locs1 → W p l e R s m args below meth c H1 locs1 cells slots Q (F0 m (pc + 3) ls rest)) : W p l e R s m args below meth c H locs cells slots Q (F0 m pc ls (.int z :: .int z2 :: .ref a :: .int z1 :: .ref a0 :: rest)) := by
  subst hz
  obtain ⟨rfl, rfl⟩ := hz1
  have hc : (nI n).toNatClampNeg = n := nI_clamp hn
  have hw : nativeFrameWords "java/lang/System" "arraycopy" 5 ≤ 19 := by decide
  have h0 : (0 : Int32).toNatClampNeg = 0 := by decide
  refine va_copyi hx hb hml hown hlink (hG _ k_261) (hG _ k_260) (hG _ k_13) hK hP hD hS q0 q1 0 0 ha0 ha1 rfl rfl rfl (by decide) (by decide) (nI_pos hn) (by rw [hc, h0]; omega) (by rw [hc, h0]; omega) (fun _ _ => rfl) hfr (by omega) hdg (fun H1 locs1 hP1 hD1 hS1 => ?_)
  rw [hc, h0] at hP1 hD1
  have hl : q1 < w.length := (List.getElem?_eq_some_iff.mp ha1).1
  have hP2 := ag_arr hP1 q1 f (List.getElem?_set_self hl) (fun j hj => by show va_cpy f g 0 0 n j = f j; unfold va_cpy; rw [if_pos ⟨Nat.zero_le _, by omega⟩]; congr 1; omega)
  rw [List.set_set] at hP2
  have hD2 : va_D A (w.set q1 (a, .inl (cI, n, .inl f))) := hD.set ha1
  exact kk H1 locs1 hP2 hD2 hS1
theorem ag_topi {x : Int32} (k : ∀ y : Int32, x = y → W p l e R s m args below meth c H locs cells slots Q (F0 m pc ls (.int y :: rest))) : W p l e R s m args below meth c H locs cells slots Q (F0 m pc ls (.int x :: rest)) := k x rfl
theorem ag_topn {x v : Int32} (h : x = v) (k : ∀ y : Int32, v = y → W p l e R s m args below meth c H locs cells slots Q (F0 m pc ls (.int y :: rest))) : W p l e R s m args below meth c H locs cells slots Q (F0 m pc ls (.int x :: rest)) := k x h.symm
end AGF
