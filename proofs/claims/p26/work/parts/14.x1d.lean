/-! the history -/
def rox (x : Int32) : Nat := (sr_J9_floorMod_7cf53 x 4).toNatClampNeg
theorem rox_at (x : Int32) : sr_J9_floorMod_7cf53 x 4 = nI (rox x) ∧ rox x < 4 := by
  obtain ⟨k, h1, h2⟩ := fm_in x (d := 4) (by decide) (by decide)
  have e : (4 : Int32) = nI 4 := rfl
  unfold rox
  rw [e, h2, nI_clamp (by omega)]
  exact ⟨rfl, h1⟩
theorem rox_4 (x : Int32) : rox x = 0 ∨ rox x = 1 ∨ rox x = 2 ∨ rox x = 3 := by
  have := (rox_at x).2
  omega
def gS (a b c d : Nat) : Nat → Option Nat := fun j => if j = 0 then some a else if j = 1 then some b else if j = 2 then some c else some d

def sr_X0_rowOf (hf : Nat → Int32) (p1 : Int32) : Int32 := sr_J9_floorMod_7cf53 ((hf 0) + p1) 4
abbrev po_X0_rowOf (cI cC cL : ClassId) (x1 x2 : Nat) (hf : Nat → Int32) (p1 : Int32) : Int32 → va_W → Prop := fun r w' => sr_X0_rowOf hf p1 = r ∧ [oH x1 x2 hf] = w'
set_option maxHeartbeats 4000000 in
set_option maxRecDepth 100000 in
theorem ct_X0_rowOf (l : Launch) (D : va_G) (cI cC cL : ClassId) (x1 x2 : Nat) (hf : Nat → Int32) (p1 : Int32) : ag_MI l yX0_rowOf cX0_rowOf 2 .int 1 22 D cI cC cL [.ref x1, .int p1] [oH x1 x2 hf] (po_X0_rowOf cI cC cL x1 x2 hf p1) := by
  refine ag_MI.of (plainFor_of_name (by decide)) (Nat.le_of_ble_eq_true rfl) ?_
  intro p e s m below meth c hx hb hr hlocks hml hown hmn hG hK A hN hA H locs hP hD hS ls hl
  have hl : lv_has ls 2 [(0, .ref x1), (1, .int p1)] := hl
  refine lv_aload_n hx hb dX0_rowOf_0 rfl (lv_at hl 0 rfl) ?_
  refine ag_getX0 (v := .int (hf 0)) hx hb hG hown hK hP 0 1 rfl (by decide) k_129 rfl dX0_rowOf_1 ?_
  refine lv_iload_n hx hb dX0_rowOf_4 rfl (lv_at hl 1 rfl) ?_
  refine lv_iadd hx hb dX0_rowOf_5 ?_
  refine lv_iconst (v := 4) hx hb dX0_rowOf_6 (by decide) ?_
  refine ag_callSi (As := [.int ((hf 0) + p1), .int 4]) (rest := []) hx hb hml hown hG hK hN hA hP hD hS hl (ct_J9_floorMod_7cf53 l D cI cC cL ((hf 0) + p1) 4 (by decide)) fJ9_floorMod_7cf53 k_282 ag_cut_0 rfl (Nat.le_of_ble_eq_true rfl) ⟨Nat.le_of_ble_eq_true rfl, Nat.le_of_ble_eq_true rfl⟩ ⟨Nat.zero_le _, Nat.zero_le _⟩ dX0_rowOf_7 (fun r w1 H locs hw hP hD hS => ?_)
  obtain ⟨rfl, hw⟩ := hw
  subst hw
  have hP : va_P D vwCl [oH x1 x2 hf] H := hP
  have hD : va_D A [oH x1 x2 hf] := hD
  exact ag_iret [x1] hx hb hr rfl hlocks hP hS rfl rfl ⟨rfl, rfl⟩ dX0_rowOf_10
theorem row_at (hf : Nat → Int32) (x : Int32) : sr_X0_rowOf hf x = nI (rox (hf 0 + x)) := (rox_at (hf 0 + x)).1
section AGQ
variable {p : Program} {l : Launch} {e : Env} {R : Room} {s : State} {m : MethodId} {args : Array Value} {below : List Frame} {meth : Method} {c : Code} {H : Heap} {locs : List Loc} {cells slots : Nat} {Q : State → Prop}
variable {cc : ByteArray} {pc : Nat} {ls : Array Slot} {rest : List Value} {D : va_G} {A : Nat → Prop} {a : Nat} {cI cC cL : ClassId} {w : va_W} {H0 : Heap}
theorem ag_qld (hx : p.tables.exec = Jvm.exec) (hb : c.code = cc) (hK : va_K D vwCl (ag_T cI cC cL) s) (hP : va_P D vwCl w H) {k v : Nat} {f : Nat → Option Nat} {i : Int32} (q0 : Nat) (ha : w[q0]? = some (a, .inl (cL, 4, .inr (.inr (.inr (.inr f)))))) (hi : i = nI k) (hk : k < 4) (hv : f k = some v) (hdg : decode cc pc = .ok (.aaload, 1))
    (kk : W p l e R s m args below meth c H locs cells slots Q (F0 m (pc + 1) ls (.ref v :: rest))) : W p l e R s m args below meth c H locs cells slots Q (F0 m pc ls (.int i :: .ref a :: rest)) := by
  subst hi
  have hc : (nI k).toNatClampNeg = k := nI_clamp (by omega)
  refine va_aldq hx hb hK hP q0 2 ha rfl (vp_in_nI hk (by decide)) hdg ?_
  rw [hc, hv]
  exact kk
end AGQ

def hk_k (hf : Nat → Int32) : Nat → Int32 := if 4 ≤ hf 1 then upd hf 0 (sr_X0_rowOf hf 1) else upd hf 1 (hf 1 + 1)
def xv44_1_X0_keep (hf : Nat → Int32) : Int32 := sr_X0_rowOf hf 1
def xv32_2_X0_keep (hf : Nat → Int32) : Int32 := (hf 1) + 1
def xv44_3_X0_keep (hf : Nat → Int32) : Int32 := sr_X0_rowOf hf 1
def xv32_4_X0_keep (hf : Nat → Int32) : Int32 := (hf 1) + 1
def xv44_5_X0_keep (hf : Nat → Int32) : Int32 := sr_X0_rowOf hf 1
def xv32_6_X0_keep (hf : Nat → Int32) : Int32 := (hf 1) + 1
def xv44_7_X0_keep (hf : Nat → Int32) : Int32 := sr_X0_rowOf hf 1
def xv32_8_X0_keep (hf : Nat → Int32) : Int32 := (hf 1) + 1
abbrev po_X0_keep (cI cC cL : ClassId) (x1 o x2 s0 s01 s02 s03 s1 s11 s12 s13 s2 s21 s22 s23 s3 s31 s32 s33 o1 o2 o3 : Nat) (hf of ose oto ore : Nat → Int32) (sf : Nat → Nat → Int32) (sse : Nat → Nat → Int32) (sto : Nat → Nat → Int32) (sre : Nat → Nat → Int32) : va_W → Prop := fun w' => [oH x1 x2 (hk_k hf), aL cL x2 (gS s0 s1 s2 s3), oL s0 s01 s02 s03 (va_up sf (rox (hf 0 + hf 1)) of 0), aI cI s01 3 (va_up sse (rox (hf 0 + hf 1)) ose 0), aI cI s02 7 (va_up sto (rox (hf 0 + hf 1)) oto 0), aI cI s03 60 (va_up sre (rox (hf 0 + hf 1)) ore 0), oL s1 s11 s12 s13 (va_up sf (rox (hf 0 + hf 1)) of 1), aI cI s11 3 (va_up sse (rox (hf 0 + hf 1)) ose 1), aI cI s12 7 (va_up sto (rox (hf 0 + hf 1)) oto 1), aI cI s13 60 (va_up sre (rox (hf 0 + hf 1)) ore 1), oL s2 s21 s22 s23 (va_up sf (rox (hf 0 + hf 1)) of 2), aI cI s21 3 (va_up sse (rox (hf 0 + hf 1)) ose 2), aI cI s22 7 (va_up sto (rox (hf 0 + hf 1)) oto 2), aI cI s23 60 (va_up sre (rox (hf 0 + hf 1)) ore 2), oL s3 s31 s32 s33 (va_up sf (rox (hf 0 + hf 1)) of 3), aI cI s31 3 (va_up sse (rox (hf 0 + hf 1)) ose 3), aI cI s32 7 (va_up sto (rox (hf 0 + hf 1)) oto 3), aI cI s33 60 (va_up sre (rox (hf 0 + hf 1)) ore 3), oL o o1 o2 o3 of, aI cI o1 3 ose, aI cI o2 7 oto, aI cI o3 60 ore] = w'
set_option maxHeartbeats 4000000 in
set_option maxRecDepth 100000 in
theorem ct_X0_keep (l : Launch) (D : va_G) (cI cC cL : ClassId) (x1 o x2 s0 s01 s02 s03 s1 s11 s12 s13 s2 s21 s22 s23 s3 s31 s32 s33 o1 o2 o3 : Nat) (hf of ose oto ore : Nat → Int32) (sf : Nat → Nat → Int32) (sse : Nat → Nat → Int32) (sto : Nat → Nat → Int32) (sre : Nat → Nat → Int32) : ag_MV l yX0_keep cX0_keep 2 2 51 D cI cC cL [.ref x1, .ref o] [oH x1 x2 hf, aL cL x2 (gS s0 s1 s2 s3), oL s0 s01 s02 s03 (sf 0), aI cI s01 3 (sse 0), aI cI s02 7 (sto 0), aI cI s03 60 (sre 0), oL s1 s11 s12 s13 (sf 1), aI cI s11 3 (sse 1), aI cI s12 7 (sto 1), aI cI s13 60 (sre 1), oL s2 s21 s22 s23 (sf 2), aI cI s21 3 (sse 2), aI cI s22 7 (sto 2), aI cI s23 60 (sre 2), oL s3 s31 s32 s33 (sf 3), aI cI s31 3 (sse 3), aI cI s32 7 (sto 3), aI cI s33 60 (sre 3), oL o o1 o2 o3 of, aI cI o1 3 ose, aI cI o2 7 oto, aI cI o3 60 ore] (po_X0_keep cI cC cL x1 o x2 s0 s01 s02 s03 s1 s11 s12 s13 s2 s21 s22 s23 s3 s31 s32 s33 o1 o2 o3 hf of ose oto ore sf sse sto sre) := by
  refine ag_MV.of (plainFor_of_name (by decide)) (Nat.le_of_ble_eq_true rfl) ?_
  intro p e s m below meth c hx hb hr hlocks hml hown hmn hG hK A hN hA H locs hP hD hS ls hl
  have hl : lv_has ls 2 [(0, .ref x1), (1, .ref o)] := hl
  refine lv_aload_n hx hb dX0_keep_0 rfl (lv_at hl 0 rfl) ?_
  refine ag_getX0 (v := .ref x2) hx hb hG hown hK hP 0 0 rfl (by decide) k_128 rfl dX0_keep_1 ?_
  refine lv_aload_n hx hb dX0_keep_4 rfl (lv_at hl 0 rfl) ?_
  refine lv_aload_n hx hb dX0_keep_5 rfl (lv_at hl 0 rfl) ?_
  refine ag_getX0 (v := .int (hf 1)) hx hb hG hown hK hP 0 2 rfl (by decide) k_130 rfl dX0_keep_6 ?_
  refine ag_callVi (As := [.int (hf 1)]) (rest := [.ref x2]) hx hb hml hown hG hK hN hA hP hD hS hl (ct_X0_rowOf l D cI cC cL x1 x2 hf (hf 1)) fX0_rowOf k_278 (ag_cut_1 [] [aL cL x2 (gS s0 s1 s2 s3), oL s0 s01 s02 s03 (sf 0), aI cI s01 3 (sse 0), aI cI s02 7 (sto 0), aI cI s03 60 (sre 0), oL s1 s11 s12 s13 (sf 1), aI cI s11 3 (sse 1), aI cI s12 7 (sto 1), aI cI s13 60 (sre 1), oL s2 s21 s22 s23 (sf 2), aI cI s21 3 (sse 2), aI cI s22 7 (sto 2), aI cI s23 60 (sre 2), oL s3 s31 s32 s33 (sf 3), aI cI s31 3 (sse 3), aI cI s32 7 (sto 3), aI cI s33 60 (sre 3), oL o o1 o2 o3 of, aI cI o1 3 ose, aI cI o2 7 oto, aI cI o3 60 ore] rfl) (q0 := 0) rfl rfl rfl rfl (Nat.le_of_ble_eq_true rfl) ⟨Nat.le_of_ble_eq_true rfl, Nat.le_of_ble_eq_true rfl⟩ ⟨Nat.zero_le _, Nat.zero_le _⟩ dX0_keep_9 (fun r w1 H locs hw hP hD hS => ?_)
  obtain ⟨rfl, hw⟩ := hw
  subst hw
  have hP : va_P D vwCl [oH x1 x2 hf, aL cL x2 (gS s0 s1 s2 s3), oL s0 s01 s02 s03 (sf 0), aI cI s01 3 (sse 0), aI cI s02 7 (sto 0), aI cI s03 60 (sre 0), oL s1 s11 s12 s13 (sf 1), aI cI s11 3 (sse 1), aI cI s12 7 (sto 1), aI cI s13 60 (sre 1), oL s2 s21 s22 s23 (sf 2), aI cI s21 3 (sse 2), aI cI s22 7 (sto 2), aI cI s23 60 (sre 2), oL s3 s31 s32 s33 (sf 3), aI cI s31 3 (sse 3), aI cI s32 7 (sto 3), aI cI s33 60 (sre 3), oL o o1 o2 o3 of, aI cI o1 3 ose, aI cI o2 7 oto, aI cI o3 60 ore] H := hP
  have hD : va_D A [oH x1 x2 hf, aL cL x2 (gS s0 s1 s2 s3), oL s0 s01 s02 s03 (sf 0), aI cI s01 3 (sse 0), aI cI s02 7 (sto 0), aI cI s03 60 (sre 0), oL s1 s11 s12 s13 (sf 1), aI cI s11 3 (sse 1), aI cI s12 7 (sto 1), aI cI s13 60 (sre 1), oL s2 s21 s22 s23 (sf 2), aI cI s21 3 (sse 2), aI cI s22 7 (sto 2), aI cI s23 60 (sre 2), oL s3 s31 s32 s33 (sf 3), aI cI s31 3 (sse 3), aI cI s32 7 (sto 3), aI cI s33 60 (sre 3), oL o o1 o2 o3 of, aI cI o1 3 ose, aI cI o2 7 oto, aI cI o3 60 ore] := hD
  rcases rox_4 (hf 0 + hf 1) with hk | hk | hk | hk
  · refine ag_qld (k := 0) (v := s0) hx hb hK hP 1 rfl ((row_at hf (hf 1)).trans (by rw [hk])) (by decide) rfl dX0_keep_12 ?_
    refine lv_aload_n hx hb dX0_keep_13 rfl (lv_at hl 1 rfl) ?_
    refine ag_callVv (As := [.ref o]) (rest := []) hx hb hml hown hG hK hN hA hP hD hS hl (ct_X1_copyFrom l D cI cC cL s0 o s01 s02 s03 o1 o2 o3 (sf 0) (sse 0) (sto 0) (sre 0) of ose oto ore) fX1_copyFrom k_285 (ag_cut_2 4 [oH x1 x2 hf, aL cL x2 (gS s0 s1 s2 s3)] [oL s0 s01 s02 s03 (sf 0), aI cI s01 3 (sse 0), aI cI s02 7 (sto 0), aI cI s03 60 (sre 0)] [oL s1 s11 s12 s13 (sf 1), aI cI s11 3 (sse 1), aI cI s12 7 (sto 1), aI cI s13 60 (sre 1), oL s2 s21 s22 s23 (sf 2), aI cI s21 3 (sse 2), aI cI s22 7 (sto 2), aI cI s23 60 (sre 2), oL s3 s31 s32 s33 (sf 3), aI cI s31 3 (sse 3), aI cI s32 7 (sto 3), aI cI s33 60 (sre 3)] [oL o o1 o2 o3 of, aI cI o1 3 ose, aI cI o2 7 oto, aI cI o3 60 ore] [] rfl rfl rfl) (q0 := 2) rfl rfl rfl rfl (Nat.le_of_ble_eq_true rfl) ⟨Nat.le_of_ble_eq_true rfl, Nat.le_of_ble_eq_true rfl⟩ ⟨Nat.zero_le _, Nat.zero_le _⟩ dX0_keep_14 (fun w1 H locs hw hP hD hS => ?_)
    have hw : _ = w1 := hw
    subst hw
    have hP : va_P D vwCl [oH x1 x2 hf, aL cL x2 (gS s0 s1 s2 s3), oL s0 s01 s02 s03 of, aI cI s01 3 ose, aI cI s02 7 oto, aI cI s03 60 ore, oL s1 s11 s12 s13 (sf 1), aI cI s11 3 (sse 1), aI cI s12 7 (sto 1), aI cI s13 60 (sre 1), oL s2 s21 s22 s23 (sf 2), aI cI s21 3 (sse 2), aI cI s22 7 (sto 2), aI cI s23 60 (sre 2), oL s3 s31 s32 s33 (sf 3), aI cI s31 3 (sse 3), aI cI s32 7 (sto 3), aI cI s33 60 (sre 3), oL o o1 o2 o3 of, aI cI o1 3 ose, aI cI o2 7 oto, aI cI o3 60 ore] H := hP
    have hD : va_D A [oH x1 x2 hf, aL cL x2 (gS s0 s1 s2 s3), oL s0 s01 s02 s03 of, aI cI s01 3 ose, aI cI s02 7 oto, aI cI s03 60 ore, oL s1 s11 s12 s13 (sf 1), aI cI s11 3 (sse 1), aI cI s12 7 (sto 1), aI cI s13 60 (sre 1), oL s2 s21 s22 s23 (sf 2), aI cI s21 3 (sse 2), aI cI s22 7 (sto 2), aI cI s23 60 (sre 2), oL s3 s31 s32 s33 (sf 3), aI cI s31 3 (sse 3), aI cI s32 7 (sto 3), aI cI s33 60 (sre 3), oL o o1 o2 o3 of, aI cI o1 3 ose, aI cI o2 7 oto, aI cI o3 60 ore] := hD
    refine lv_aload_n hx hb dX0_keep_17 rfl (lv_at hl 0 rfl) ?_
    refine ag_getX0 (v := .int (hf 1)) hx hb hG hown hK hP 0 2 rfl (by decide) k_130 rfl dX0_keep_18 ?_
    refine lv_iconst (v := 4) hx hb dX0_keep_21 (by decide) ?_
    refine lv_icmp_ge (tgt := 38) hx hb dX0_keep_22 (by decide) (fun c_22 => ?_) (fun c_22 => ?_)
    · refine lv_aload_n hx hb dX0_keep_38 rfl (lv_at hl 0 rfl) ?_
      refine lv_aload_n hx hb dX0_keep_39 rfl (lv_at hl 0 rfl) ?_
      refine lv_iconst (v := 1) hx hb dX0_keep_40 (by decide) ?_
      refine ag_callVi (As := [.int 1]) (rest := [.ref x1]) hx hb hml hown hG hK hN hA hP hD hS hl (ct_X0_rowOf l D cI cC cL x1 x2 hf 1) fX0_rowOf k_278 (ag_cut_1 [] [aL cL x2 (gS s0 s1 s2 s3), oL s0 s01 s02 s03 of, aI cI s01 3 ose, aI cI s02 7 oto, aI cI s03 60 ore, oL s1 s11 s12 s13 (sf 1), aI cI s11 3 (sse 1), aI cI s12 7 (sto 1), aI cI s13 60 (sre 1), oL s2 s21 s22 s23 (sf 2), aI cI s21 3 (sse 2), aI cI s22 7 (sto 2), aI cI s23 60 (sre 2), oL s3 s31 s32 s33 (sf 3), aI cI s31 3 (sse 3), aI cI s32 7 (sto 3), aI cI s33 60 (sre 3), oL o o1 o2 o3 of, aI cI o1 3 ose, aI cI o2 7 oto, aI cI o3 60 ore] rfl) (q0 := 0) rfl rfl rfl rfl (Nat.le_of_ble_eq_true rfl) ⟨Nat.le_of_ble_eq_true rfl, Nat.le_of_ble_eq_true rfl⟩ ⟨Nat.zero_le _, Nat.zero_le _⟩ dX0_keep_41 (fun r w1 H locs hw hP hD hS => ?_)
      obtain ⟨rfl, hw⟩ := hw
      subst hw
      have hP : va_P D vwCl [oH x1 x2 hf, aL cL x2 (gS s0 s1 s2 s3), oL s0 s01 s02 s03 of, aI cI s01 3 ose, aI cI s02 7 oto, aI cI s03 60 ore, oL s1 s11 s12 s13 (sf 1), aI cI s11 3 (sse 1), aI cI s12 7 (sto 1), aI cI s13 60 (sre 1), oL s2 s21 s22 s23 (sf 2), aI cI s21 3 (sse 2), aI cI s22 7 (sto 2), aI cI s23 60 (sre 2), oL s3 s31 s32 s33 (sf 3), aI cI s31 3 (sse 3), aI cI s32 7 (sto 3), aI cI s33 60 (sre 3), oL o o1 o2 o3 of, aI cI o1 3 ose, aI cI o2 7 oto, aI cI o3 60 ore] H := hP
      have hD : va_D A [oH x1 x2 hf, aL cL x2 (gS s0 s1 s2 s3), oL s0 s01 s02 s03 of, aI cI s01 3 ose, aI cI s02 7 oto, aI cI s03 60 ore, oL s1 s11 s12 s13 (sf 1), aI cI s11 3 (sse 1), aI cI s12 7 (sto 1), aI cI s13 60 (sre 1), oL s2 s21 s22 s23 (sf 2), aI cI s21 3 (sse 2), aI cI s22 7 (sto 2), aI cI s23 60 (sre 2), oL s3 s31 s32 s33 (sf 3), aI cI s31 3 (sse 3), aI cI s32 7 (sto 3), aI cI s33 60 (sre 3), oL o o1 o2 o3 of, aI cI o1 3 ose, aI cI o2 7 oto, aI cI o3 60 ore] := hD
      refine ag_topn (v := xv44_1_X0_keep hf) rfl (fun x44_1 ex44_1 => ?_)
      refine ag_putX0 hx hb hG hown hK hP hD hS 0 1 rfl (by decide) k_129 (by decide) rfl rfl (Nat.le_of_ble_eq_true rfl) dX0_keep_44 (fun H locs hP hD hS => ?_)
      have hP : va_P D vwCl [oH x1 x2 (upd hf 0 x44_1), aL cL x2 (gS s0 s1 s2 s3), oL s0 s01 s02 s03 of, aI cI s01 3 ose, aI cI s02 7 oto, aI cI s03 60 ore, oL s1 s11 s12 s13 (sf 1), aI cI s11 3 (sse 1), aI cI s12 7 (sto 1), aI cI s13 60 (sre 1), oL s2 s21 s22 s23 (sf 2), aI cI s21 3 (sse 2), aI cI s22 7 (sto 2), aI cI s23 60 (sre 2), oL s3 s31 s32 s33 (sf 3), aI cI s31 3 (sse 3), aI cI s32 7 (sto 3), aI cI s33 60 (sre 3), oL o o1 o2 o3 of, aI cI o1 3 ose, aI cI o2 7 oto, aI cI o3 60 ore] H := hP
      have hD : va_D A [oH x1 x2 (upd hf 0 x44_1), aL cL x2 (gS s0 s1 s2 s3), oL s0 s01 s02 s03 of, aI cI s01 3 ose, aI cI s02 7 oto, aI cI s03 60 ore, oL s1 s11 s12 s13 (sf 1), aI cI s11 3 (sse 1), aI cI s12 7 (sto 1), aI cI s13 60 (sre 1), oL s2 s21 s22 s23 (sf 2), aI cI s21 3 (sse 2), aI cI s22 7 (sto 2), aI cI s23 60 (sre 2), oL s3 s31 s32 s33 (sf 3), aI cI s31 3 (sse 3), aI cI s32 7 (sto 3), aI cI s33 60 (sre 3), oL o o1 o2 o3 of, aI cI o1 3 ose, aI cI o2 7 oto, aI cI o3 60 ore] := hD
      revert hP; revert hD; revert hS; revert hl
      subst ex44_1
      intro hl hS hD hP
      exact ag_vret [x1, x2, s0, s01, s02, s03, s1, s11, s12, s13, s2, s21, s22, s23, s3, s31, s32, s33, o, o1, o2, o3] hx hb hr hlocks hP hS rfl rfl (by show _ = _; unfold hk_k; rw [show rox (hf 0 + hf 1) = 0 from hk, if_pos c_22]; rfl) dX0_keep_47
    · refine lv_aload_n hx hb dX0_keep_25 rfl (lv_at hl 0 rfl) ?_
      refine lv_dup hx hb dX0_keep_26 rfl ?_
      refine ag_getX0 (v := .int (hf 1)) hx hb hG hown hK hP 0 2 rfl (by decide) k_130 rfl dX0_keep_27 ?_
      refine lv_iconst (v := 1) hx hb dX0_keep_30 (by decide) ?_
      refine lv_iadd hx hb dX0_keep_31 ?_
      refine ag_topn (v := xv32_2_X0_keep hf) rfl (fun x32_2 ex32_2 => ?_)
      refine ag_putX0 hx hb hG hown hK hP hD hS 0 2 rfl (by decide) k_130 (by decide) rfl rfl (Nat.le_of_ble_eq_true rfl) dX0_keep_32 (fun H locs hP hD hS => ?_)
      have hP : va_P D vwCl [oH x1 x2 (upd hf 1 x32_2), aL cL x2 (gS s0 s1 s2 s3), oL s0 s01 s02 s03 of, aI cI s01 3 ose, aI cI s02 7 oto, aI cI s03 60 ore, oL s1 s11 s12 s13 (sf 1), aI cI s11 3 (sse 1), aI cI s12 7 (sto 1), aI cI s13 60 (sre 1), oL s2 s21 s22 s23 (sf 2), aI cI s21 3 (sse 2), aI cI s22 7 (sto 2), aI cI s23 60 (sre 2), oL s3 s31 s32 s33 (sf 3), aI cI s31 3 (sse 3), aI cI s32 7 (sto 3), aI cI s33 60 (sre 3), oL o o1 o2 o3 of, aI cI o1 3 ose, aI cI o2 7 oto, aI cI o3 60 ore] H := hP
      have hD : va_D A [oH x1 x2 (upd hf 1 x32_2), aL cL x2 (gS s0 s1 s2 s3), oL s0 s01 s02 s03 of, aI cI s01 3 ose, aI cI s02 7 oto, aI cI s03 60 ore, oL s1 s11 s12 s13 (sf 1), aI cI s11 3 (sse 1), aI cI s12 7 (sto 1), aI cI s13 60 (sre 1), oL s2 s21 s22 s23 (sf 2), aI cI s21 3 (sse 2), aI cI s22 7 (sto 2), aI cI s23 60 (sre 2), oL s3 s31 s32 s33 (sf 3), aI cI s31 3 (sse 3), aI cI s32 7 (sto 3), aI cI s33 60 (sre 3), oL o o1 o2 o3 of, aI cI o1 3 ose, aI cI o2 7 oto, aI cI o3 60 ore] := hD
      refine lv_goto (tgt := 47) hx hb dX0_keep_35 (by decide) ?_
      revert hP; revert hD; revert hS; revert hl
      subst ex32_2
      intro hl hS hD hP
      exact ag_vret [x1, x2, s0, s01, s02, s03, s1, s11, s12, s13, s2, s21, s22, s23, s3, s31, s32, s33, o, o1, o2, o3] hx hb hr hlocks hP hS rfl rfl (by show _ = _; unfold hk_k; rw [show rox (hf 0 + hf 1) = 0 from hk, if_neg c_22]; rfl) dX0_keep_47
  · refine ag_qld (k := 1) (v := s1) hx hb hK hP 1 rfl ((row_at hf (hf 1)).trans (by rw [hk])) (by decide) rfl dX0_keep_12 ?_
    refine lv_aload_n hx hb dX0_keep_13 rfl (lv_at hl 1 rfl) ?_
    refine ag_callVv (As := [.ref o]) (rest := []) hx hb hml hown hG hK hN hA hP hD hS hl (ct_X1_copyFrom l D cI cC cL s1 o s11 s12 s13 o1 o2 o3 (sf 1) (sse 1) (sto 1) (sre 1) of ose oto ore) fX1_copyFrom k_285 (ag_cut_2 4 [oH x1 x2 hf, aL cL x2 (gS s0 s1 s2 s3), oL s0 s01 s02 s03 (sf 0), aI cI s01 3 (sse 0), aI cI s02 7 (sto 0), aI cI s03 60 (sre 0)] [oL s1 s11 s12 s13 (sf 1), aI cI s11 3 (sse 1), aI cI s12 7 (sto 1), aI cI s13 60 (sre 1)] [oL s2 s21 s22 s23 (sf 2), aI cI s21 3 (sse 2), aI cI s22 7 (sto 2), aI cI s23 60 (sre 2), oL s3 s31 s32 s33 (sf 3), aI cI s31 3 (sse 3), aI cI s32 7 (sto 3), aI cI s33 60 (sre 3)] [oL o o1 o2 o3 of, aI cI o1 3 ose, aI cI o2 7 oto, aI cI o3 60 ore] [] rfl rfl rfl) (q0 := 6) rfl rfl rfl rfl (Nat.le_of_ble_eq_true rfl) ⟨Nat.le_of_ble_eq_true rfl, Nat.le_of_ble_eq_true rfl⟩ ⟨Nat.zero_le _, Nat.zero_le _⟩ dX0_keep_14 (fun w1 H locs hw hP hD hS => ?_)
    have hw : _ = w1 := hw
    subst hw
    have hP : va_P D vwCl [oH x1 x2 hf, aL cL x2 (gS s0 s1 s2 s3), oL s0 s01 s02 s03 (sf 0), aI cI s01 3 (sse 0), aI cI s02 7 (sto 0), aI cI s03 60 (sre 0), oL s1 s11 s12 s13 of, aI cI s11 3 ose, aI cI s12 7 oto, aI cI s13 60 ore, oL s2 s21 s22 s23 (sf 2), aI cI s21 3 (sse 2), aI cI s22 7 (sto 2), aI cI s23 60 (sre 2), oL s3 s31 s32 s33 (sf 3), aI cI s31 3 (sse 3), aI cI s32 7 (sto 3), aI cI s33 60 (sre 3), oL o o1 o2 o3 of, aI cI o1 3 ose, aI cI o2 7 oto, aI cI o3 60 ore] H := hP
    have hD : va_D A [oH x1 x2 hf, aL cL x2 (gS s0 s1 s2 s3), oL s0 s01 s02 s03 (sf 0), aI cI s01 3 (sse 0), aI cI s02 7 (sto 0), aI cI s03 60 (sre 0), oL s1 s11 s12 s13 of, aI cI s11 3 ose, aI cI s12 7 oto, aI cI s13 60 ore, oL s2 s21 s22 s23 (sf 2), aI cI s21 3 (sse 2), aI cI s22 7 (sto 2), aI cI s23 60 (sre 2), oL s3 s31 s32 s33 (sf 3), aI cI s31 3 (sse 3), aI cI s32 7 (sto 3), aI cI s33 60 (sre 3), oL o o1 o2 o3 of, aI cI o1 3 ose, aI cI o2 7 oto, aI cI o3 60 ore] := hD
    refine lv_aload_n hx hb dX0_keep_17 rfl (lv_at hl 0 rfl) ?_
    refine ag_getX0 (v := .int (hf 1)) hx hb hG hown hK hP 0 2 rfl (by decide) k_130 rfl dX0_keep_18 ?_
    refine lv_iconst (v := 4) hx hb dX0_keep_21 (by decide) ?_
    refine lv_icmp_ge (tgt := 38) hx hb dX0_keep_22 (by decide) (fun c_22 => ?_) (fun c_22 => ?_)
    · refine lv_aload_n hx hb dX0_keep_38 rfl (lv_at hl 0 rfl) ?_
      refine lv_aload_n hx hb dX0_keep_39 rfl (lv_at hl 0 rfl) ?_
      refine lv_iconst (v := 1) hx hb dX0_keep_40 (by decide) ?_
      refine ag_callVi (As := [.int 1]) (rest := [.ref x1]) hx hb hml hown hG hK hN hA hP hD hS hl (ct_X0_rowOf l D cI cC cL x1 x2 hf 1) fX0_rowOf k_278 (ag_cut_1 [] [aL cL x2 (gS s0 s1 s2 s3), oL s0 s01 s02 s03 (sf 0), aI cI s01 3 (sse 0), aI cI s02 7 (sto 0), aI cI s03 60 (sre 0), oL s1 s11 s12 s13 of, aI cI s11 3 ose, aI cI s12 7 oto, aI cI s13 60 ore, oL s2 s21 s22 s23 (sf 2), aI cI s21 3 (sse 2), aI cI s22 7 (sto 2), aI cI s23 60 (sre 2), oL s3 s31 s32 s33 (sf 3), aI cI s31 3 (sse 3), aI cI s32 7 (sto 3), aI cI s33 60 (sre 3), oL o o1 o2 o3 of, aI cI o1 3 ose, aI cI o2 7 oto, aI cI o3 60 ore] rfl) (q0 := 0) rfl rfl rfl rfl (Nat.le_of_ble_eq_true rfl) ⟨Nat.le_of_ble_eq_true rfl, Nat.le_of_ble_eq_true rfl⟩ ⟨Nat.zero_le _, Nat.zero_le _⟩ dX0_keep_41 (fun r w1 H locs hw hP hD hS => ?_)
      obtain ⟨rfl, hw⟩ := hw
      subst hw
      have hP : va_P D vwCl [oH x1 x2 hf, aL cL x2 (gS s0 s1 s2 s3), oL s0 s01 s02 s03 (sf 0), aI cI s01 3 (sse 0), aI cI s02 7 (sto 0), aI cI s03 60 (sre 0), oL s1 s11 s12 s13 of, aI cI s11 3 ose, aI cI s12 7 oto, aI cI s13 60 ore, oL s2 s21 s22 s23 (sf 2), aI cI s21 3 (sse 2), aI cI s22 7 (sto 2), aI cI s23 60 (sre 2), oL s3 s31 s32 s33 (sf 3), aI cI s31 3 (sse 3), aI cI s32 7 (sto 3), aI cI s33 60 (sre 3), oL o o1 o2 o3 of, aI cI o1 3 ose, aI cI o2 7 oto, aI cI o3 60 ore] H := hP
      have hD : va_D A [oH x1 x2 hf, aL cL x2 (gS s0 s1 s2 s3), oL s0 s01 s02 s03 (sf 0), aI cI s01 3 (sse 0), aI cI s02 7 (sto 0), aI cI s03 60 (sre 0), oL s1 s11 s12 s13 of, aI cI s11 3 ose, aI cI s12 7 oto, aI cI s13 60 ore, oL s2 s21 s22 s23 (sf 2), aI cI s21 3 (sse 2), aI cI s22 7 (sto 2), aI cI s23 60 (sre 2), oL s3 s31 s32 s33 (sf 3), aI cI s31 3 (sse 3), aI cI s32 7 (sto 3), aI cI s33 60 (sre 3), oL o o1 o2 o3 of, aI cI o1 3 ose, aI cI o2 7 oto, aI cI o3 60 ore] := hD
      refine ag_topn (v := xv44_3_X0_keep hf) rfl (fun x44_3 ex44_3 => ?_)
      refine ag_putX0 hx hb hG hown hK hP hD hS 0 1 rfl (by decide) k_129 (by decide) rfl rfl (Nat.le_of_ble_eq_true rfl) dX0_keep_44 (fun H locs hP hD hS => ?_)
      have hP : va_P D vwCl [oH x1 x2 (upd hf 0 x44_3), aL cL x2 (gS s0 s1 s2 s3), oL s0 s01 s02 s03 (sf 0), aI cI s01 3 (sse 0), aI cI s02 7 (sto 0), aI cI s03 60 (sre 0), oL s1 s11 s12 s13 of, aI cI s11 3 ose, aI cI s12 7 oto, aI cI s13 60 ore, oL s2 s21 s22 s23 (sf 2), aI cI s21 3 (sse 2), aI cI s22 7 (sto 2), aI cI s23 60 (sre 2), oL s3 s31 s32 s33 (sf 3), aI cI s31 3 (sse 3), aI cI s32 7 (sto 3), aI cI s33 60 (sre 3), oL o o1 o2 o3 of, aI cI o1 3 ose, aI cI o2 7 oto, aI cI o3 60 ore] H := hP
      have hD : va_D A [oH x1 x2 (upd hf 0 x44_3), aL cL x2 (gS s0 s1 s2 s3), oL s0 s01 s02 s03 (sf 0), aI cI s01 3 (sse 0), aI cI s02 7 (sto 0), aI cI s03 60 (sre 0), oL s1 s11 s12 s13 of, aI cI s11 3 ose, aI cI s12 7 oto, aI cI s13 60 ore, oL s2 s21 s22 s23 (sf 2), aI cI s21 3 (sse 2), aI cI s22 7 (sto 2), aI cI s23 60 (sre 2), oL s3 s31 s32 s33 (sf 3), aI cI s31 3 (sse 3), aI cI s32 7 (sto 3), aI cI s33 60 (sre 3), oL o o1 o2 o3 of, aI cI o1 3 ose, aI cI o2 7 oto, aI cI o3 60 ore] := hD
      revert hP; revert hD; revert hS; revert hl
      subst ex44_3
      intro hl hS hD hP
      exact ag_vret [x1, x2, s0, s01, s02, s03, s1, s11, s12, s13, s2, s21, s22, s23, s3, s31, s32, s33, o, o1, o2, o3] hx hb hr hlocks hP hS rfl rfl (by show _ = _; unfold hk_k; rw [show rox (hf 0 + hf 1) = 1 from hk, if_pos c_22]; rfl) dX0_keep_47
    · refine lv_aload_n hx hb dX0_keep_25 rfl (lv_at hl 0 rfl) ?_
      refine lv_dup hx hb dX0_keep_26 rfl ?_
      refine ag_getX0 (v := .int (hf 1)) hx hb hG hown hK hP 0 2 rfl (by decide) k_130 rfl dX0_keep_27 ?_
      refine lv_iconst (v := 1) hx hb dX0_keep_30 (by decide) ?_
      refine lv_iadd hx hb dX0_keep_31 ?_
      refine ag_topn (v := xv32_4_X0_keep hf) rfl (fun x32_4 ex32_4 => ?_)
      refine ag_putX0 hx hb hG hown hK hP hD hS 0 2 rfl (by decide) k_130 (by decide) rfl rfl (Nat.le_of_ble_eq_true rfl) dX0_keep_32 (fun H locs hP hD hS => ?_)
      have hP : va_P D vwCl [oH x1 x2 (upd hf 1 x32_4), aL cL x2 (gS s0 s1 s2 s3), oL s0 s01 s02 s03 (sf 0), aI cI s01 3 (sse 0), aI cI s02 7 (sto 0), aI cI s03 60 (sre 0), oL s1 s11 s12 s13 of, aI cI s11 3 ose, aI cI s12 7 oto, aI cI s13 60 ore, oL s2 s21 s22 s23 (sf 2), aI cI s21 3 (sse 2), aI cI s22 7 (sto 2), aI cI s23 60 (sre 2), oL s3 s31 s32 s33 (sf 3), aI cI s31 3 (sse 3), aI cI s32 7 (sto 3), aI cI s33 60 (sre 3), oL o o1 o2 o3 of, aI cI o1 3 ose, aI cI o2 7 oto, aI cI o3 60 ore] H := hP
      have hD : va_D A [oH x1 x2 (upd hf 1 x32_4), aL cL x2 (gS s0 s1 s2 s3), oL s0 s01 s02 s03 (sf 0), aI cI s01 3 (sse 0), aI cI s02 7 (sto 0), aI cI s03 60 (sre 0), oL s1 s11 s12 s13 of, aI cI s11 3 ose, aI cI s12 7 oto, aI cI s13 60 ore, oL s2 s21 s22 s23 (sf 2), aI cI s21 3 (sse 2), aI cI s22 7 (sto 2), aI cI s23 60 (sre 2), oL s3 s31 s32 s33 (sf 3), aI cI s31 3 (sse 3), aI cI s32 7 (sto 3), aI cI s33 60 (sre 3), oL o o1 o2 o3 of, aI cI o1 3 ose, aI cI o2 7 oto, aI cI o3 60 ore] := hD
      refine lv_goto (tgt := 47) hx hb dX0_keep_35 (by decide) ?_
      revert hP; revert hD; revert hS; revert hl
      subst ex32_4
      intro hl hS hD hP
      exact ag_vret [x1, x2, s0, s01, s02, s03, s1, s11, s12, s13, s2, s21, s22, s23, s3, s31, s32, s33, o, o1, o2, o3] hx hb hr hlocks hP hS rfl rfl (by show _ = _; unfold hk_k; rw [show rox (hf 0 + hf 1) = 1 from hk, if_neg c_22]; rfl) dX0_keep_47
  · refine ag_qld (k := 2) (v := s2) hx hb hK hP 1 rfl ((row_at hf (hf 1)).trans (by rw [hk])) (by decide) rfl dX0_keep_12 ?_
    refine lv_aload_n hx hb dX0_keep_13 rfl (lv_at hl 1 rfl) ?_
    refine ag_callVv (As := [.ref o]) (rest := []) hx hb hml hown hG hK hN hA hP hD hS hl (ct_X1_copyFrom l D cI cC cL s2 o s21 s22 s23 o1 o2 o3 (sf 2) (sse 2) (sto 2) (sre 2) of ose oto ore) fX1_copyFrom k_285 (ag_cut_2 4 [oH x1 x2 hf, aL cL x2 (gS s0 s1 s2 s3), oL s0 s01 s02 s03 (sf 0), aI cI s01 3 (sse 0), aI cI s02 7 (sto 0), aI cI s03 60 (sre 0), oL s1 s11 s12 s13 (sf 1), aI cI s11 3 (sse 1), aI cI s12 7 (sto 1), aI cI s13 60 (sre 1)] [oL s2 s21 s22 s23 (sf 2), aI cI s21 3 (sse 2), aI cI s22 7 (sto 2), aI cI s23 60 (sre 2)] [oL s3 s31 s32 s33 (sf 3), aI cI s31 3 (sse 3), aI cI s32 7 (sto 3), aI cI s33 60 (sre 3)] [oL o o1 o2 o3 of, aI cI o1 3 ose, aI cI o2 7 oto, aI cI o3 60 ore] [] rfl rfl rfl) (q0 := 10) rfl rfl rfl rfl (Nat.le_of_ble_eq_true rfl) ⟨Nat.le_of_ble_eq_true rfl, Nat.le_of_ble_eq_true rfl⟩ ⟨Nat.zero_le _, Nat.zero_le _⟩ dX0_keep_14 (fun w1 H locs hw hP hD hS => ?_)
    have hw : _ = w1 := hw
    subst hw
    have hP : va_P D vwCl [oH x1 x2 hf, aL cL x2 (gS s0 s1 s2 s3), oL s0 s01 s02 s03 (sf 0), aI cI s01 3 (sse 0), aI cI s02 7 (sto 0), aI cI s03 60 (sre 0), oL s1 s11 s12 s13 (sf 1), aI cI s11 3 (sse 1), aI cI s12 7 (sto 1), aI cI s13 60 (sre 1), oL s2 s21 s22 s23 of, aI cI s21 3 ose, aI cI s22 7 oto, aI cI s23 60 ore, oL s3 s31 s32 s33 (sf 3), aI cI s31 3 (sse 3), aI cI s32 7 (sto 3), aI cI s33 60 (sre 3), oL o o1 o2 o3 of, aI cI o1 3 ose, aI cI o2 7 oto, aI cI o3 60 ore] H := hP
    have hD : va_D A [oH x1 x2 hf, aL cL x2 (gS s0 s1 s2 s3), oL s0 s01 s02 s03 (sf 0), aI cI s01 3 (sse 0), aI cI s02 7 (sto 0), aI cI s03 60 (sre 0), oL s1 s11 s12 s13 (sf 1), aI cI s11 3 (sse 1), aI cI s12 7 (sto 1), aI cI s13 60 (sre 1), oL s2 s21 s22 s23 of, aI cI s21 3 ose, aI cI s22 7 oto, aI cI s23 60 ore, oL s3 s31 s32 s33 (sf 3), aI cI s31 3 (sse 3), aI cI s32 7 (sto 3), aI cI s33 60 (sre 3), oL o o1 o2 o3 of, aI cI o1 3 ose, aI cI o2 7 oto, aI cI o3 60 ore] := hD
    refine lv_aload_n hx hb dX0_keep_17 rfl (lv_at hl 0 rfl) ?_
    refine ag_getX0 (v := .int (hf 1)) hx hb hG hown hK hP 0 2 rfl (by decide) k_130 rfl dX0_keep_18 ?_
    refine lv_iconst (v := 4) hx hb dX0_keep_21 (by decide) ?_
    refine lv_icmp_ge (tgt := 38) hx hb dX0_keep_22 (by decide) (fun c_22 => ?_) (fun c_22 => ?_)
    · refine lv_aload_n hx hb dX0_keep_38 rfl (lv_at hl 0 rfl) ?_
      refine lv_aload_n hx hb dX0_keep_39 rfl (lv_at hl 0 rfl) ?_
      refine lv_iconst (v := 1) hx hb dX0_keep_40 (by decide) ?_
      refine ag_callVi (As := [.int 1]) (rest := [.ref x1]) hx hb hml hown hG hK hN hA hP hD hS hl (ct_X0_rowOf l D cI cC cL x1 x2 hf 1) fX0_rowOf k_278 (ag_cut_1 [] [aL cL x2 (gS s0 s1 s2 s3), oL s0 s01 s02 s03 (sf 0), aI cI s01 3 (sse 0), aI cI s02 7 (sto 0), aI cI s03 60 (sre 0), oL s1 s11 s12 s13 (sf 1), aI cI s11 3 (sse 1), aI cI s12 7 (sto 1), aI cI s13 60 (sre 1), oL s2 s21 s22 s23 of, aI cI s21 3 ose, aI cI s22 7 oto, aI cI s23 60 ore, oL s3 s31 s32 s33 (sf 3), aI cI s31 3 (sse 3), aI cI s32 7 (sto 3), aI cI s33 60 (sre 3), oL o o1 o2 o3 of, aI cI o1 3 ose, aI cI o2 7 oto, aI cI o3 60 ore] rfl) (q0 := 0) rfl rfl rfl rfl (Nat.le_of_ble_eq_true rfl) ⟨Nat.le_of_ble_eq_true rfl, Nat.le_of_ble_eq_true rfl⟩ ⟨Nat.zero_le _, Nat.zero_le _⟩ dX0_keep_41 (fun r w1 H locs hw hP hD hS => ?_)
      obtain ⟨rfl, hw⟩ := hw
      subst hw
      have hP : va_P D vwCl [oH x1 x2 hf, aL cL x2 (gS s0 s1 s2 s3), oL s0 s01 s02 s03 (sf 0), aI cI s01 3 (sse 0), aI cI s02 7 (sto 0), aI cI s03 60 (sre 0), oL s1 s11 s12 s13 (sf 1), aI cI s11 3 (sse 1), aI cI s12 7 (sto 1), aI cI s13 60 (sre 1), oL s2 s21 s22 s23 of, aI cI s21 3 ose, aI cI s22 7 oto, aI cI s23 60 ore, oL s3 s31 s32 s33 (sf 3), aI cI s31 3 (sse 3), aI cI s32 7 (sto 3), aI cI s33 60 (sre 3), oL o o1 o2 o3 of, aI cI o1 3 ose, aI cI o2 7 oto, aI cI o3 60 ore] H := hP
      have hD : va_D A [oH x1 x2 hf, aL cL x2 (gS s0 s1 s2 s3), oL s0 s01 s02 s03 (sf 0), aI cI s01 3 (sse 0), aI cI s02 7 (sto 0), aI cI s03 60 (sre 0), oL s1 s11 s12 s13 (sf 1), aI cI s11 3 (sse 1), aI cI s12 7 (sto 1), aI cI s13 60 (sre 1), oL s2 s21 s22 s23 of, aI cI s21 3 ose, aI cI s22 7 oto, aI cI s23 60 ore, oL s3 s31 s32 s33 (sf 3), aI cI s31 3 (sse 3), aI cI s32 7 (sto 3), aI cI s33 60 (sre 3), oL o o1 o2 o3 of, aI cI o1 3 ose, aI cI o2 7 oto, aI cI o3 60 ore] := hD
      refine ag_topn (v := xv44_5_X0_keep hf) rfl (fun x44_5 ex44_5 => ?_)
      refine ag_putX0 hx hb hG hown hK hP hD hS 0 1 rfl (by decide) k_129 (by decide) rfl rfl (Nat.le_of_ble_eq_true rfl) dX0_keep_44 (fun H locs hP hD hS => ?_)
      have hP : va_P D vwCl [oH x1 x2 (upd hf 0 x44_5), aL cL x2 (gS s0 s1 s2 s3), oL s0 s01 s02 s03 (sf 0), aI cI s01 3 (sse 0), aI cI s02 7 (sto 0), aI cI s03 60 (sre 0), oL s1 s11 s12 s13 (sf 1), aI cI s11 3 (sse 1), aI cI s12 7 (sto 1), aI cI s13 60 (sre 1), oL s2 s21 s22 s23 of, aI cI s21 3 ose, aI cI s22 7 oto, aI cI s23 60 ore, oL s3 s31 s32 s33 (sf 3), aI cI s31 3 (sse 3), aI cI s32 7 (sto 3), aI cI s33 60 (sre 3), oL o o1 o2 o3 of, aI cI o1 3 ose, aI cI o2 7 oto, aI cI o3 60 ore] H := hP
      have hD : va_D A [oH x1 x2 (upd hf 0 x44_5), aL cL x2 (gS s0 s1 s2 s3), oL s0 s01 s02 s03 (sf 0), aI cI s01 3 (sse 0), aI cI s02 7 (sto 0), aI cI s03 60 (sre 0), oL s1 s11 s12 s13 (sf 1), aI cI s11 3 (sse 1), aI cI s12 7 (sto 1), aI cI s13 60 (sre 1), oL s2 s21 s22 s23 of, aI cI s21 3 ose, aI cI s22 7 oto, aI cI s23 60 ore, oL s3 s31 s32 s33 (sf 3), aI cI s31 3 (sse 3), aI cI s32 7 (sto 3), aI cI s33 60 (sre 3), oL o o1 o2 o3 of, aI cI o1 3 ose, aI cI o2 7 oto, aI cI o3 60 ore] := hD
      revert hP; revert hD; revert hS; revert hl
      subst ex44_5
      intro hl hS hD hP
      exact ag_vret [x1, x2, s0, s01, s02, s03, s1, s11, s12, s13, s2, s21, s22, s23, s3, s31, s32, s33, o, o1, o2, o3] hx hb hr hlocks hP hS rfl rfl (by show _ = _; unfold hk_k; rw [show rox (hf 0 + hf 1) = 2 from hk, if_pos c_22]; rfl) dX0_keep_47
    · refine lv_aload_n hx hb dX0_keep_25 rfl (lv_at hl 0 rfl) ?_
      refine lv_dup hx hb dX0_keep_26 rfl ?_
      refine ag_getX0 (v := .int (hf 1)) hx hb hG hown hK hP 0 2 rfl (by decide) k_130 rfl dX0_keep_27 ?_
      refine lv_iconst (v := 1) hx hb dX0_keep_30 (by decide) ?_
      refine lv_iadd hx hb dX0_keep_31 ?_
      refine ag_topn (v := xv32_6_X0_keep hf) rfl (fun x32_6 ex32_6 => ?_)
      refine ag_putX0 hx hb hG hown hK hP hD hS 0 2 rfl (by decide) k_130 (by decide) rfl rfl (Nat.le_of_ble_eq_true rfl) dX0_keep_32 (fun H locs hP hD hS => ?_)
      have hP : va_P D vwCl [oH x1 x2 (upd hf 1 x32_6), aL cL x2 (gS s0 s1 s2 s3), oL s0 s01 s02 s03 (sf 0), aI cI s01 3 (sse 0), aI cI s02 7 (sto 0), aI cI s03 60 (sre 0), oL s1 s11 s12 s13 (sf 1), aI cI s11 3 (sse 1), aI cI s12 7 (sto 1), aI cI s13 60 (sre 1), oL s2 s21 s22 s23 of, aI cI s21 3 ose, aI cI s22 7 oto, aI cI s23 60 ore, oL s3 s31 s32 s33 (sf 3), aI cI s31 3 (sse 3), aI cI s32 7 (sto 3), aI cI s33 60 (sre 3), oL o o1 o2 o3 of, aI cI o1 3 ose, aI cI o2 7 oto, aI cI o3 60 ore] H := hP
      have hD : va_D A [oH x1 x2 (upd hf 1 x32_6), aL cL x2 (gS s0 s1 s2 s3), oL s0 s01 s02 s03 (sf 0), aI cI s01 3 (sse 0), aI cI s02 7 (sto 0), aI cI s03 60 (sre 0), oL s1 s11 s12 s13 (sf 1), aI cI s11 3 (sse 1), aI cI s12 7 (sto 1), aI cI s13 60 (sre 1), oL s2 s21 s22 s23 of, aI cI s21 3 ose, aI cI s22 7 oto, aI cI s23 60 ore, oL s3 s31 s32 s33 (sf 3), aI cI s31 3 (sse 3), aI cI s32 7 (sto 3), aI cI s33 60 (sre 3), oL o o1 o2 o3 of, aI cI o1 3 ose, aI cI o2 7 oto, aI cI o3 60 ore] := hD
      refine lv_goto (tgt := 47) hx hb dX0_keep_35 (by decide) ?_
      revert hP; revert hD; revert hS; revert hl
      subst ex32_6
      intro hl hS hD hP
      exact ag_vret [x1, x2, s0, s01, s02, s03, s1, s11, s12, s13, s2, s21, s22, s23, s3, s31, s32, s33, o, o1, o2, o3] hx hb hr hlocks hP hS rfl rfl (by show _ = _; unfold hk_k; rw [show rox (hf 0 + hf 1) = 2 from hk, if_neg c_22]; rfl) dX0_keep_47
  · refine ag_qld (k := 3) (v := s3) hx hb hK hP 1 rfl ((row_at hf (hf 1)).trans (by rw [hk])) (by decide) rfl dX0_keep_12 ?_
    refine lv_aload_n hx hb dX0_keep_13 rfl (lv_at hl 1 rfl) ?_
    refine ag_callVv (As := [.ref o]) (rest := []) hx hb hml hown hG hK hN hA hP hD hS hl (ct_X1_copyFrom l D cI cC cL s3 o s31 s32 s33 o1 o2 o3 (sf 3) (sse 3) (sto 3) (sre 3) of ose oto ore) fX1_copyFrom k_285 (ag_cut_1 [oH x1 x2 hf, aL cL x2 (gS s0 s1 s2 s3), oL s0 s01 s02 s03 (sf 0), aI cI s01 3 (sse 0), aI cI s02 7 (sto 0), aI cI s03 60 (sre 0), oL s1 s11 s12 s13 (sf 1), aI cI s11 3 (sse 1), aI cI s12 7 (sto 1), aI cI s13 60 (sre 1), oL s2 s21 s22 s23 (sf 2), aI cI s21 3 (sse 2), aI cI s22 7 (sto 2), aI cI s23 60 (sre 2)] [] rfl) (q0 := 14) rfl rfl rfl rfl (Nat.le_of_ble_eq_true rfl) ⟨Nat.le_of_ble_eq_true rfl, Nat.le_of_ble_eq_true rfl⟩ ⟨Nat.zero_le _, Nat.zero_le _⟩ dX0_keep_14 (fun w1 H locs hw hP hD hS => ?_)
    have hw : _ = w1 := hw
    subst hw
    have hP : va_P D vwCl [oH x1 x2 hf, aL cL x2 (gS s0 s1 s2 s3), oL s0 s01 s02 s03 (sf 0), aI cI s01 3 (sse 0), aI cI s02 7 (sto 0), aI cI s03 60 (sre 0), oL s1 s11 s12 s13 (sf 1), aI cI s11 3 (sse 1), aI cI s12 7 (sto 1), aI cI s13 60 (sre 1), oL s2 s21 s22 s23 (sf 2), aI cI s21 3 (sse 2), aI cI s22 7 (sto 2), aI cI s23 60 (sre 2), oL s3 s31 s32 s33 of, aI cI s31 3 ose, aI cI s32 7 oto, aI cI s33 60 ore, oL o o1 o2 o3 of, aI cI o1 3 ose, aI cI o2 7 oto, aI cI o3 60 ore] H := hP
    have hD : va_D A [oH x1 x2 hf, aL cL x2 (gS s0 s1 s2 s3), oL s0 s01 s02 s03 (sf 0), aI cI s01 3 (sse 0), aI cI s02 7 (sto 0), aI cI s03 60 (sre 0), oL s1 s11 s12 s13 (sf 1), aI cI s11 3 (sse 1), aI cI s12 7 (sto 1), aI cI s13 60 (sre 1), oL s2 s21 s22 s23 (sf 2), aI cI s21 3 (sse 2), aI cI s22 7 (sto 2), aI cI s23 60 (sre 2), oL s3 s31 s32 s33 of, aI cI s31 3 ose, aI cI s32 7 oto, aI cI s33 60 ore, oL o o1 o2 o3 of, aI cI o1 3 ose, aI cI o2 7 oto, aI cI o3 60 ore] := hD
    refine lv_aload_n hx hb dX0_keep_17 rfl (lv_at hl 0 rfl) ?_
    refine ag_getX0 (v := .int (hf 1)) hx hb hG hown hK hP 0 2 rfl (by decide) k_130 rfl dX0_keep_18 ?_
    refine lv_iconst (v := 4) hx hb dX0_keep_21 (by decide) ?_
    refine lv_icmp_ge (tgt := 38) hx hb dX0_keep_22 (by decide) (fun c_22 => ?_) (fun c_22 => ?_)
    · refine lv_aload_n hx hb dX0_keep_38 rfl (lv_at hl 0 rfl) ?_
      refine lv_aload_n hx hb dX0_keep_39 rfl (lv_at hl 0 rfl) ?_
      refine lv_iconst (v := 1) hx hb dX0_keep_40 (by decide) ?_
      refine ag_callVi (As := [.int 1]) (rest := [.ref x1]) hx hb hml hown hG hK hN hA hP hD hS hl (ct_X0_rowOf l D cI cC cL x1 x2 hf 1) fX0_rowOf k_278 (ag_cut_1 [] [aL cL x2 (gS s0 s1 s2 s3), oL s0 s01 s02 s03 (sf 0), aI cI s01 3 (sse 0), aI cI s02 7 (sto 0), aI cI s03 60 (sre 0), oL s1 s11 s12 s13 (sf 1), aI cI s11 3 (sse 1), aI cI s12 7 (sto 1), aI cI s13 60 (sre 1), oL s2 s21 s22 s23 (sf 2), aI cI s21 3 (sse 2), aI cI s22 7 (sto 2), aI cI s23 60 (sre 2), oL s3 s31 s32 s33 of, aI cI s31 3 ose, aI cI s32 7 oto, aI cI s33 60 ore, oL o o1 o2 o3 of, aI cI o1 3 ose, aI cI o2 7 oto, aI cI o3 60 ore] rfl) (q0 := 0) rfl rfl rfl rfl (Nat.le_of_ble_eq_true rfl) ⟨Nat.le_of_ble_eq_true rfl, Nat.le_of_ble_eq_true rfl⟩ ⟨Nat.zero_le _, Nat.zero_le _⟩ dX0_keep_41 (fun r w1 H locs hw hP hD hS => ?_)
      obtain ⟨rfl, hw⟩ := hw
      subst hw
      have hP : va_P D vwCl [oH x1 x2 hf, aL cL x2 (gS s0 s1 s2 s3), oL s0 s01 s02 s03 (sf 0), aI cI s01 3 (sse 0), aI cI s02 7 (sto 0), aI cI s03 60 (sre 0), oL s1 s11 s12 s13 (sf 1), aI cI s11 3 (sse 1), aI cI s12 7 (sto 1), aI cI s13 60 (sre 1), oL s2 s21 s22 s23 (sf 2), aI cI s21 3 (sse 2), aI cI s22 7 (sto 2), aI cI s23 60 (sre 2), oL s3 s31 s32 s33 of, aI cI s31 3 ose, aI cI s32 7 oto, aI cI s33 60 ore, oL o o1 o2 o3 of, aI cI o1 3 ose, aI cI o2 7 oto, aI cI o3 60 ore] H := hP
      have hD : va_D A [oH x1 x2 hf, aL cL x2 (gS s0 s1 s2 s3), oL s0 s01 s02 s03 (sf 0), aI cI s01 3 (sse 0), aI cI s02 7 (sto 0), aI cI s03 60 (sre 0), oL s1 s11 s12 s13 (sf 1), aI cI s11 3 (sse 1), aI cI s12 7 (sto 1), aI cI s13 60 (sre 1), oL s2 s21 s22 s23 (sf 2), aI cI s21 3 (sse 2), aI cI s22 7 (sto 2), aI cI s23 60 (sre 2), oL s3 s31 s32 s33 of, aI cI s31 3 ose, aI cI s32 7 oto, aI cI s33 60 ore, oL o o1 o2 o3 of, aI cI o1 3 ose, aI cI o2 7 oto, aI cI o3 60 ore] := hD
      refine ag_topn (v := xv44_7_X0_keep hf) rfl (fun x44_7 ex44_7 => ?_)
      refine ag_putX0 hx hb hG hown hK hP hD hS 0 1 rfl (by decide) k_129 (by decide) rfl rfl (Nat.le_of_ble_eq_true rfl) dX0_keep_44 (fun H locs hP hD hS => ?_)
      have hP : va_P D vwCl [oH x1 x2 (upd hf 0 x44_7), aL cL x2 (gS s0 s1 s2 s3), oL s0 s01 s02 s03 (sf 0), aI cI s01 3 (sse 0), aI cI s02 7 (sto 0), aI cI s03 60 (sre 0), oL s1 s11 s12 s13 (sf 1), aI cI s11 3 (sse 1), aI cI s12 7 (sto 1), aI cI s13 60 (sre 1), oL s2 s21 s22 s23 (sf 2), aI cI s21 3 (sse 2), aI cI s22 7 (sto 2), aI cI s23 60 (sre 2), oL s3 s31 s32 s33 of, aI cI s31 3 ose, aI cI s32 7 oto, aI cI s33 60 ore, oL o o1 o2 o3 of, aI cI o1 3 ose, aI cI o2 7 oto, aI cI o3 60 ore] H := hP
      have hD : va_D A [oH x1 x2 (upd hf 0 x44_7), aL cL x2 (gS s0 s1 s2 s3), oL s0 s01 s02 s03 (sf 0), aI cI s01 3 (sse 0), aI cI s02 7 (sto 0), aI cI s03 60 (sre 0), oL s1 s11 s12 s13 (sf 1), aI cI s11 3 (sse 1), aI cI s12 7 (sto 1), aI cI s13 60 (sre 1), oL s2 s21 s22 s23 (sf 2), aI cI s21 3 (sse 2), aI cI s22 7 (sto 2), aI cI s23 60 (sre 2), oL s3 s31 s32 s33 of, aI cI s31 3 ose, aI cI s32 7 oto, aI cI s33 60 ore, oL o o1 o2 o3 of, aI cI o1 3 ose, aI cI o2 7 oto, aI cI o3 60 ore] := hD
      revert hP; revert hD; revert hS; revert hl
      subst ex44_7
      intro hl hS hD hP
      exact ag_vret [x1, x2, s0, s01, s02, s03, s1, s11, s12, s13, s2, s21, s22, s23, s3, s31, s32, s33, o, o1, o2, o3] hx hb hr hlocks hP hS rfl rfl (by show _ = _; unfold hk_k; rw [show rox (hf 0 + hf 1) = 3 from hk, if_pos c_22]; rfl) dX0_keep_47
    · refine lv_aload_n hx hb dX0_keep_25 rfl (lv_at hl 0 rfl) ?_
      refine lv_dup hx hb dX0_keep_26 rfl ?_
      refine ag_getX0 (v := .int (hf 1)) hx hb hG hown hK hP 0 2 rfl (by decide) k_130 rfl dX0_keep_27 ?_
      refine lv_iconst (v := 1) hx hb dX0_keep_30 (by decide) ?_
      refine lv_iadd hx hb dX0_keep_31 ?_
      refine ag_topn (v := xv32_8_X0_keep hf) rfl (fun x32_8 ex32_8 => ?_)
      refine ag_putX0 hx hb hG hown hK hP hD hS 0 2 rfl (by decide) k_130 (by decide) rfl rfl (Nat.le_of_ble_eq_true rfl) dX0_keep_32 (fun H locs hP hD hS => ?_)
      have hP : va_P D vwCl [oH x1 x2 (upd hf 1 x32_8), aL cL x2 (gS s0 s1 s2 s3), oL s0 s01 s02 s03 (sf 0), aI cI s01 3 (sse 0), aI cI s02 7 (sto 0), aI cI s03 60 (sre 0), oL s1 s11 s12 s13 (sf 1), aI cI s11 3 (sse 1), aI cI s12 7 (sto 1), aI cI s13 60 (sre 1), oL s2 s21 s22 s23 (sf 2), aI cI s21 3 (sse 2), aI cI s22 7 (sto 2), aI cI s23 60 (sre 2), oL s3 s31 s32 s33 of, aI cI s31 3 ose, aI cI s32 7 oto, aI cI s33 60 ore, oL o o1 o2 o3 of, aI cI o1 3 ose, aI cI o2 7 oto, aI cI o3 60 ore] H := hP
      have hD : va_D A [oH x1 x2 (upd hf 1 x32_8), aL cL x2 (gS s0 s1 s2 s3), oL s0 s01 s02 s03 (sf 0), aI cI s01 3 (sse 0), aI cI s02 7 (sto 0), aI cI s03 60 (sre 0), oL s1 s11 s12 s13 (sf 1), aI cI s11 3 (sse 1), aI cI s12 7 (sto 1), aI cI s13 60 (sre 1), oL s2 s21 s22 s23 (sf 2), aI cI s21 3 (sse 2), aI cI s22 7 (sto 2), aI cI s23 60 (sre 2), oL s3 s31 s32 s33 of, aI cI s31 3 ose, aI cI s32 7 oto, aI cI s33 60 ore, oL o o1 o2 o3 of, aI cI o1 3 ose, aI cI o2 7 oto, aI cI o3 60 ore] := hD
      refine lv_goto (tgt := 47) hx hb dX0_keep_35 (by decide) ?_
      revert hP; revert hD; revert hS; revert hl
      subst ex32_8
      intro hl hS hD hP
      exact ag_vret [x1, x2, s0, s01, s02, s03, s1, s11, s12, s13, s2, s21, s22, s23, s3, s31, s32, s33, o, o1, o2, o3] hx hb hr hlocks hP hS rfl rfl (by show _ = _; unfold hk_k; rw [show rox (hf 0 + hf 1) = 3 from hk, if_neg c_22]; rfl) dX0_keep_47
