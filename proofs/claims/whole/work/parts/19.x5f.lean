/-! the class itself: the bits of a number with a point -/
theorem fb_cmp2 {E T : Nat} (hE1 : 1 ≤ E) (hE2 : E ≤ 254) (hT : T < 8388608) (op : CmpOp) : Op.cmpValue (FP.fcmp (fb E T) FP.fconst2) op < 0 ↔ E < 128 := by
  rw [show FP.fconst2 = fb 128 0 by decide +kernel]; exact fb_cmp hE1 hE2 hT (by decide) (by decide) op
theorem fb_cmp1 {E T : Nat} (hE1 : 1 ≤ E) (hE2 : E ≤ 254) (hT : T < 8388608) (op : CmpOp) : Op.cmpValue (FP.fcmp (fb E T) FP.fconst1) op < 0 ↔ E < 127 := by
  rw [show FP.fconst1 = fb 127 0 by decide +kernel]; exact fb_cmp hE1 hE2 hT (by decide) (by decide) op
theorem fb_half2 {E T : Nat} (hE1 : 2 ≤ E) (hE2 : E ≤ 254) (hT : T < 8388608) : FP.fdiv (fb E T) FP.fconst2 = fb (E - 1) T := by
  rw [show FP.fconst2 = fb 128 0 by decide +kernel]; exact fb_half hE1 hE2 hT
theorem fb_dbl {E T : Nat} (hE1 : 1 ≤ E) (hE2 : E + 1 ≤ 254) (hT : T < 8388608) : FP.fmul (fb E T) FP.fconst2 = fb (E + 1) T := by
  rw [show FP.fconst2 = fb (127 + 1) 0 by decide +kernel]; exact fb_mulp hE1 hE2 (by decide) hT
theorem fb_scale {T : Nat} (hT : T < 8388608) : FP.fmul (fb 127 T) 1258291200 = fb 150 T := by
  rw [show (1258291200 : UInt32) = fb (127 + 23) 0 by decide +kernel]; exact fb_mulp (by decide) (by decide) (by decide) hT
theorem nI_m1 (b : Nat) : nI (b + 1) + (-1) = nI b := by
  rw [← nI_1, Int32.add_assoc]; exact Int32.add_zero _
theorem fb_fin (E T : Nat) : nI (E * 8388608 + T) = nI E * 8388608 + (nI (8388608 + T) - 8388608) := by
  rw [← nI_add, ← nI_add 8388608 T, Int32.add_comm (nI 8388608) (nI T), show (8388608 : Int32) = nI 8388608 from rfl, Int32.add_sub_cancel]
  exact congrArg (· + nI T) (Int32.ofNat_mul E 8388608)
abbrev fbv (E T : Nat) (x : UInt32) : Prop := (x = FP.fconst0 ∧ E = 0 ∧ T = 0) ∨ (1 ≤ E ∧ E ≤ 254 ∧ T < 8388608 ∧ x = fb E T)
theorem fb_yes {E T : Nat} {x : UInt32} (h : fbv E T x) (c : 0 < Op.cmpValue (FP.fcmp x FP.fconst0) CmpOp.l) : 1 ≤ E ∧ E ≤ 254 ∧ T < 8388608 ∧ x = fb E T := by
  rcases h with h | h
  · rw [h.1] at c; exact absurd c (by decide +kernel)
  · exact h
theorem fb_no {E T : Nat} {x : UInt32} (h : fbv E T x) (c : ¬ 0 < Op.cmpValue (FP.fcmp x FP.fconst0) CmpOp.l) : nI (E * 8388608 + T) = 0 := by
  rcases h with h | h
  · rw [h.2.1, h.2.2]; rfl
  · rw [h.2.2.2] at c; exact absurd (fb_pos h.1 h.2.1 h.2.2.1 _) c
theorem fb_raw {E T : Nat} {x : UInt32} (h : fbv E T x) : x.toInt32 = nI (E * 8388608 + T) := by
  rcases h with h | h
  · rw [h.1, h.2.1, h.2.2]; decide +kernel
  · rw [h.2.2.2]; exact rfl
theorem fb_isn {E T : Nat} {x : UInt32} (h : fbv E T x) : vf_n32 x := by
  rcases h with h | h
  · rw [h.1]; unfold vf_n32; decide +kernel
  · rw [h.2.2.2]; exact fb_n32 h.2.1 h.2.2.1
abbrev po_X5_floatBits (cI cC cL : ClassId) (p1 : UInt32) (E : Nat) (T : Nat) (hv : fbv E T p1) : Int32 → va_W → Prop := fun r w' => nI (E * 8388608 + T) = r ∧ [] = w'
set_option maxHeartbeats 4000000 in
set_option maxRecDepth 100000 in
theorem ct_X5_floatBits (l : Launch) (D : va_G) (cI cC cL : ClassId) (p1 : UInt32) (E : Nat) (T : Nat) (hv : fbv E T p1) : ag_MI l yX5_floatBits cX5_floatBits 4 .int 0 0 D cI cC cL [.float p1] [] (po_X5_floatBits cI cC cL p1 E T hv) := by
  refine ag_MI.of (plainFor_of_name (by decide)) (Nat.le_of_ble_eq_true rfl) ?_
  intro p e s m below meth c hx hb hr hlocks hml hown hmn hG hK A hN hA H locs hP hD hS ls hl
  have hl : lv_has ls 4 [(0, .float p1)] := hl
  refine lv_fload_n hx hb dX5_floatBits_0 rfl (lv_at hl 0 rfl) ?_
  refine lv_fconst0 hx hb dX5_floatBits_1 ?_
  refine lv_fcmp hx hb dX5_floatBits_2 ?_
  refine lv_if_gt (tgt := 8) hx hb dX5_floatBits_3 (by decide) (fun c_3 => ?_) (fun c_3 => ?_)
  · refine lv_bipush (v := 127) hx hb dX5_floatBits_8 (by decide) ?_
    refine lv_istore_n (lv' := [(1, .int 127), (0, .float p1)]) hx hb dX5_floatBits_10 rfl hl (by decide) rfl (fun ls hl => ?_)
    refine lv_fload_n hx hb dX5_floatBits_11 rfl (lv_at hl 1 rfl) ?_
    refine lv_fstore_n (lv' := [(2, .float p1), (1, .int 127), (0, .float p1)]) hx hb dX5_floatBits_12 rfl hl (by decide) rfl (fun ls hl => ?_)
    refine lv_iconst (v := 0) hx hb dX5_floatBits_13 (by decide) ?_
    refine lv_istore_n (lv' := [(3, .int 0), (2, .float p1), (1, .int 127), (0, .float p1)]) hx hb dX5_floatBits_14 rfl hl (by decide) rfl (fun ls hl => ?_)
    have hz := fb_yes hv c_3
    rw [hz.2.2.2] at hl
    suffices L15 : ∀ (n : Nat) (i : Nat), (hi : i + n = E - 127) → ∀ (H : Heap) (locs : List Loc) (ls : Array Slot), lv_has ls 4 [(1, .int (nI (127 + i))), (2, .float (fb (E - i) T)), (3, .int (nI i))] → va_P D vwCl [] H → va_D A [] → va_S A s.heap H locs → W p l e (ag_rm 0 0) s m ([.float p1] : List Value).toArray below meth c H locs 0 0 (MQ below (va_Qi (po_X5_floatBits cI cC cL p1 E T hv) (ag_Out D []) A) ([.float p1] : List Value).toArray s 0 0 A) (F0 m 15 ls []) from L15 (E - 127) 0 (by omega) H locs ls (lv_sub hl [2, 1, 0] rfl) hP hD hS
    intro n
    induction n with
    | zero =>
      intro i hi H locs ls hl hP hD hS
      refine lv_iload_n hx hb dX5_floatBits_15 rfl (lv_at hl 2 rfl) ?_
      refine lv_sipush (v := 128) hx hb dX5_floatBits_16 (by decide) ?_
      refine lv_icmp_ge (tgt := 41) hx hb dX5_floatBits_19 (by decide) (fun h0 => absurd h0 (fun h => absurd ((nI_leI (a := 128) (b := i) (by decide) (by omega)).mp h) (by omega))) (fun _ => ?_)
      refine lv_fload_n hx hb dX5_floatBits_22 rfl (lv_at hl 1 rfl) ?_
      refine lv_fconst2 hx hb dX5_floatBits_23 ?_
      refine lv_fcmp hx hb dX5_floatBits_24 ?_
      refine lv_if_lt (tgt := 41) hx hb dX5_floatBits_25 (by decide) (fun _ => ?_) (fun h0 => absurd ((fb_cmp2 (by omega) (by omega) hz.2.2.1 _).mpr (by omega)) h0)
      refine lv_iconst (v := 0) hx hb dX5_floatBits_41 (by decide) ?_
      refine lv_istore_n (lv' := [(3, .int 0), (1, .int (nI (127 + i))), (2, .float (fb (E - i) T))]) hx hb dX5_floatBits_42 rfl hl (by decide) rfl (fun ls hl => ?_)
      suffices L43 : ∀ (n : Nat) (j : Nat), (hj : j + n = 127 - (E - i)) → ∀ (H : Heap) (locs : List Loc) (ls : Array Slot), lv_has ls 4 [(1, .int (nI (127 + i - j))), (2, .float (fb (E - i + j) T)), (3, .int (nI j))] → va_P D vwCl [] H → va_D A [] → va_S A s.heap H locs → W p l e (ag_rm 0 0) s m ([.float p1] : List Value).toArray below meth c H locs 0 0 (MQ below (va_Qi (po_X5_floatBits cI cC cL p1 E T hv) (ag_Out D []) A) ([.float p1] : List Value).toArray s 0 0 A) (F0 m 43 ls []) from L43 (127 - (E - i)) 0 (by omega) H locs ls (lv_sub hl [1, 2, 0] rfl) hP hD hS
      intro n
      induction n with
      | zero =>
        intro j hj H locs ls hl hP hD hS
        refine lv_iload_n hx hb dX5_floatBits_43 rfl (lv_at hl 2 rfl) ?_
        refine lv_sipush (v := 128) hx hb dX5_floatBits_44 (by decide) ?_
        refine lv_icmp_ge (tgt := 69) hx hb dX5_floatBits_47 (by decide) (fun h0 => absurd h0 (fun h => absurd ((nI_leI (a := 128) (b := j) (by decide) (by omega)).mp h) (by omega))) (fun _ => ?_)
        refine lv_fload_n hx hb dX5_floatBits_50 rfl (lv_at hl 1 rfl) ?_
        refine lv_fconst1 hx hb dX5_floatBits_51 ?_
        refine lv_fcmp hx hb dX5_floatBits_52 ?_
        refine lv_if_ge (tgt := 69) hx hb dX5_floatBits_53 (by decide) (fun _ => ?_) (fun h0 => absurd (Int32.not_lt.mp (fun h => absurd ((fb_cmp1 (by omega) (by omega) hz.2.2.1 _).mp h) (by omega))) h0)
        refine lv_fload_n hx hb dX5_floatBits_69 rfl (lv_at hl 1 rfl) ?_
        refine lv_ldcf (v := 1258291200) hx hb hown (hG _ k_460) dX5_floatBits_70 ?_
        have hq : FP.fmul (fb (E - i + j) T) 1258291200 = fb 150 T := by rw [show E - i + j = 127 by omega]; exact fb_scale hz.2.2.1
        refine lv_fmul hx hb dX5_floatBits_72 (by rw [hq]; exact fb_n32 (by decide) hz.2.2.1) ?_
        refine W.eq (g2 := F0 m 73 ls [.float (fb 150 T)]) (by rw [hq]) ?_
        refine lv_f2i hx hb dX5_floatBits_73 ?_
        refine W.eq (g2 := F0 m 74 ls [.int (nI (8388608 + T))]) (by rw [fb_f2i hz.2.2.1]) ?_
        refine lv_ldc (v := 8388608) hx hb hown (hG _ k_461) dX5_floatBits_74 ?_
        refine lv_isub hx hb dX5_floatBits_76 ?_
        refine lv_istore_n (lv' := [(3, .int ((nI (8388608 + T)) - 8388608)), (1, .int (nI (127 + i - j))), (2, .float (fb (E - i + j) T))]) hx hb dX5_floatBits_77 rfl hl (by decide) rfl (fun ls hl => ?_)
        refine lv_iload_n hx hb dX5_floatBits_78 rfl (lv_at hl 1 rfl) ?_
        refine lv_ldc (v := 8388608) hx hb hown (hG _ k_461) dX5_floatBits_79 ?_
        refine lv_imul hx hb dX5_floatBits_81 ?_
        refine lv_iload_n hx hb dX5_floatBits_82 rfl (lv_at hl 0 rfl) ?_
        refine lv_iadd hx hb dX5_floatBits_83 ?_
        exact ag_iret [] hx hb hr rfl hlocks hP hS rfl rfl ⟨(by rw [show 127 + i - j = E by omega]; exact fb_fin E T), rfl⟩ dX5_floatBits_84
      | succ n ih =>
        intro j hj H locs ls hl hP hD hS
        refine lv_iload_n hx hb dX5_floatBits_43 rfl (lv_at hl 2 rfl) ?_
        refine lv_sipush (v := 128) hx hb dX5_floatBits_44 (by decide) ?_
        refine lv_icmp_ge (tgt := 69) hx hb dX5_floatBits_47 (by decide) (fun h0 => absurd h0 (fun h => absurd ((nI_leI (a := 128) (b := j) (by decide) (by omega)).mp h) (by omega))) (fun _ => ?_)
        refine lv_fload_n hx hb dX5_floatBits_50 rfl (lv_at hl 1 rfl) ?_
        refine lv_fconst1 hx hb dX5_floatBits_51 ?_
        refine lv_fcmp hx hb dX5_floatBits_52 ?_
        refine lv_if_ge (tgt := 69) hx hb dX5_floatBits_53 (by decide) (fun h0 => absurd h0 (Int32.not_le.mpr ((fb_cmp1 (by omega) (by omega) hz.2.2.1 _).mpr (by omega)))) (fun _ => ?_)
        refine lv_fload_n hx hb dX5_floatBits_56 rfl (lv_at hl 1 rfl) ?_
        refine lv_fconst2 hx hb dX5_floatBits_57 ?_
        have hq := fb_dbl (E := E - i + j) (T := T) (by omega) (by omega) hz.2.2.1
        refine lv_fmul hx hb dX5_floatBits_58 (by rw [hq]; exact fb_n32 (by omega) hz.2.2.1) ?_
        refine W.eq (g2 := F0 m 59 ls [.float (fb (E - i + (j + 1)) T)]) (by rw [hq]; rfl) ?_
        refine lv_fstore_n (lv' := [(2, .float (fb (E - i + (j + 1)) T)), (1, .int (nI (127 + i - j))), (3, .int (nI j))]) hx hb dX5_floatBits_59 rfl hl (by decide) rfl (fun ls hl => ?_)
        refine lv_iinc (v := nI (127 + i - (j + 1))) (lv' := [(1, .int (nI (127 + i - (j + 1)))), (2, .float (fb (E - i + (j + 1)) T)), (3, .int (nI j))]) hx hb dX5_floatBits_60 hl (k := 1) rfl (by rw [show 127 + i - j = 127 + i - (j + 1) + 1 by omega]; exact nI_m1 _) (by decide) rfl (fun ls hl => ?_)
        refine lv_iinc (v := nI (j + 1)) (lv' := [(3, .int (nI (j + 1))), (1, .int (nI (127 + i - (j + 1)))), (2, .float (fb (E - i + (j + 1)) T))]) hx hb dX5_floatBits_63 hl (k := 2) rfl (nI_1 j) (by decide) rfl (fun ls hl => ?_)
        refine lv_goto (tgt := 43) hx hb dX5_floatBits_66 (by decide) ?_
        exact ih (j + 1) (by omega) H locs ls (lv_sub hl [1, 2, 0] rfl) hP hD hS
    | succ n ih =>
      intro i hi H locs ls hl hP hD hS
      refine lv_iload_n hx hb dX5_floatBits_15 rfl (lv_at hl 2 rfl) ?_
      refine lv_sipush (v := 128) hx hb dX5_floatBits_16 (by decide) ?_
      refine lv_icmp_ge (tgt := 41) hx hb dX5_floatBits_19 (by decide) (fun h0 => absurd h0 (fun h => absurd ((nI_leI (a := 128) (b := i) (by decide) (by omega)).mp h) (by omega))) (fun _ => ?_)
      refine lv_fload_n hx hb dX5_floatBits_22 rfl (lv_at hl 1 rfl) ?_
      refine lv_fconst2 hx hb dX5_floatBits_23 ?_
      refine lv_fcmp hx hb dX5_floatBits_24 ?_
      refine lv_if_lt (tgt := 41) hx hb dX5_floatBits_25 (by decide) (fun h0 => absurd h0 (fun h => absurd ((fb_cmp2 (by omega) (by omega) hz.2.2.1 _).mp h) (by omega))) (fun _ => ?_)
      refine lv_fload_n hx hb dX5_floatBits_28 rfl (lv_at hl 1 rfl) ?_
      refine lv_fconst2 hx hb dX5_floatBits_29 ?_
      have hq := fb_half2 (E := E - i) (T := T) (by omega) (by omega) hz.2.2.1
      refine lv_fdiv hx hb dX5_floatBits_30 (by rw [hq]; exact fb_n32 (by omega) hz.2.2.1) ?_
      refine W.eq (g2 := F0 m 31 ls [.float (fb (E - (i + 1)) T)]) (by rw [hq]; rfl) ?_
      refine lv_fstore_n (lv' := [(2, .float (fb (E - (i + 1)) T)), (1, .int (nI (127 + i))), (3, .int (nI i))]) hx hb dX5_floatBits_31 rfl hl (by decide) rfl (fun ls hl => ?_)
      refine lv_iinc (v := nI ((127 + i) + 1)) (lv' := [(1, .int (nI ((127 + i) + 1))), (2, .float (fb (E - (i + 1)) T)), (3, .int (nI i))]) hx hb dX5_floatBits_32 hl (k := 1) rfl (nI_1 (127 + i)) (by decide) rfl (fun ls hl => ?_)
      refine lv_iinc (v := nI (i + 1)) (lv' := [(3, .int (nI (i + 1))), (1, .int (nI ((127 + i) + 1))), (2, .float (fb (E - (i + 1)) T))]) hx hb dX5_floatBits_35 hl (k := 2) rfl (nI_1 i) (by decide) rfl (fun ls hl => ?_)
      refine lv_goto (tgt := 15) hx hb dX5_floatBits_38 (by decide) ?_
      exact ih (i + 1) (by omega) H locs ls (lv_sub hl [1, 2, 0] rfl) hP hD hS
  · refine lv_iconst (v := 0) hx hb dX5_floatBits_6 (by decide) ?_
    exact ag_iret [] hx hb hr rfl hlocks hP hS rfl rfl ⟨(fb_no hv c_3), rfl⟩ dX5_floatBits_7
