/-! what the law weighs is what the class foresees -/
def kU (m : Nat → Int32) (a b c d e g : Int32) : Nat → Int32 := upd (upd (upd (upd (upd (upd m 0 a) 1 b) 2 c) 4 d) 5 e) 3 g
theorem kU_v (m : Nat → Int32) (a b c d e g h : Int32) : kU m a b c d e g 3 = g ∧ upd (kU m a b c d e g) 6 h 0 = a ∧ upd (kU m a b c d e g) 6 h 1 = b ∧ upd (kU m a b c d e g) 6 h 2 = c ∧ upd (kU m a b c d e g) 6 h 3 = g ∧ upd (kU m a b c d e g) 6 h 4 = d ∧ upd (kU m a b c d e g) 6 h 5 = e ∧ upd (kU m a b c d e g) 6 h 6 = h := ⟨rfl, rfl, rfl, rfl, rfl, rfl, rfl, rfl⟩
theorem kf_form (kf f se : Nat → Int32) (p : Int32) : sw0_X4_foresee kf f se p = upd (kU kf (xv29_1_X4_foresee f p) (xv53_2_X4_foresee f se p) (xv80_3_X4_foresee f se p) (xv96_4_X4_foresee f se p) (xv115_5_X4_foresee f se p) (xv155_6_X4_foresee f se p)) 6 (sr_X4_siltOf (kU kf (xv29_1_X4_foresee f p) (xv53_2_X4_foresee f se p) (xv80_3_X4_foresee f se p) (xv96_4_X4_foresee f se p) (xv115_5_X4_foresee f se p) (xv155_6_X4_foresee f se p)) f se) := by
  unfold sw0_X4_foresee xv164_7_X4_foresee kU
  rfl
theorem kf_v (kf f se : Nat → Int32) (p : Int32) : sw0_X4_foresee kf f se p 0 = xv29_1_X4_foresee f p ∧ sw0_X4_foresee kf f se p 1 = xv53_2_X4_foresee f se p ∧ sw0_X4_foresee kf f se p 2 = xv80_3_X4_foresee f se p ∧ sw0_X4_foresee kf f se p 3 = xv155_6_X4_foresee f se p ∧ sw0_X4_foresee kf f se p 4 = xv96_4_X4_foresee f se p ∧ sw0_X4_foresee kf f se p 5 = xv115_5_X4_foresee f se p ∧
    sw0_X4_foresee kf f se p 6 = (if xv155_6_X4_foresee f se p ≤ 0 then if -(se 2) < xv155_6_X4_foresee f se p then 0 else -(ag_min ((-(xv155_6_X4_foresee f se p)) / 20) (f 2)) else ag_min (xv155_6_X4_foresee f se p / 50) (20000 - f 2)) := by
  rw [kf_form]
  unfold sr_X4_siltOf
  generalize xv29_1_X4_foresee f p = a
  generalize xv53_2_X4_foresee f se p = b
  generalize xv80_3_X4_foresee f se p = c
  generalize xv96_4_X4_foresee f se p = d
  generalize xv115_5_X4_foresee f se p = e
  generalize xv155_6_X4_foresee f se p = g
  obtain ⟨h0, -⟩ := kU_v kf a b c d e g 0
  rw [h0]
  obtain ⟨-, h1, h2, h3, h4, h5, h6, h7⟩ := kU_v kf a b c d e g (if g ≤ 0 then if -(se 2) < g then 0 else -(ag_min ((-g) / 20) (f 2)) else ag_min (g / 50) (20000 - f 2))
  exact ⟨h1, h2, h3, h4, h5, h6, h7⟩
theorem wg_v (ug uf : Nat → Int32) : sw1_L_weigh ug uf 0 = xv32_1_L_weigh ug ∧ sw1_L_weigh ug uf 1 = xv55_2_L_weigh ug ∧ sw1_L_weigh ug uf 2 = xv83_3_L_weigh ug ∧ sw1_L_weigh ug uf 3 = xv163_6_L_weigh ug ∧ sw1_L_weigh ug uf 4 = xv100_4_L_weigh ug ∧ sw1_L_weigh ug uf 5 = xv120_5_L_weigh ug ∧ sw1_L_weigh ug uf 6 = xv251_7_L_weigh ug := by
  unfold sw1_L_weigh
  generalize xv32_1_L_weigh ug = a
  generalize xv55_2_L_weigh ug = b
  generalize xv83_3_L_weigh ug = c
  generalize xv100_4_L_weigh ug = d
  generalize xv120_5_L_weigh ug = e
  generalize xv163_6_L_weigh ug = g
  generalize xv251_7_L_weigh ug = h
  exact ⟨rfl, rfl, rfl, rfl, rfl, rfl, rfl⟩
theorem lev_L {ug f : Nat → Int32} (h1 : ug 1 = f 1) (h2 : ug 2 = f 2) : sr_L_level ug = sr_X1_level f := by unfold sr_L_level sr_X1_level; rw [h1, h2]
theorem bird_L {ug f : Nat → Int32} (h0 : ug 0 = f 0) (h6 : ug 6 = f 6) (h7 : ug 7 = f 7) : sr_L_birds ug = sr_X1_isBirdHour f := by unfold sr_L_birds sr_X1_isBirdHour; rw [h0, h6, h7]
/-- what the law weighs is what the class foresees -/
theorem wg_rel {T : Nat} {f se kf uf ug : Nat → Int32} (hT : T < 2 ^ 31) (hN : NB T f) (h1 : ∀ k, k < 8 → ug k = f k) (h2 : ∀ k, k < 3 → ug (8 + k) = se k) :
    (∀ k, k < 7 → sw1_L_weigh ug uf k = sw0_X4_foresee kf f se (sr_X1_head f) k) ∧
    (∃ w : Nat, f 1 + sw0_X4_foresee kf f se (sr_X1_head f) 3 = nI w ∧ w ≤ 80000) ∧ (∃ s : Nat, f 2 + sw0_X4_foresee kf f se (sr_X1_head f) 6 = nI s ∧ s ≤ 20000) ∧
    (sw0_X4_foresee kf f se (sr_X1_head f) 3).toInt.natAbs ≤ 80000 ∧ (sw0_X4_foresee kf f se (sr_X1_head f) 6).toInt.natAbs ≤ 20000 := by
  obtain ⟨z, hz, hz2⟩ := head_b hT hN
  have g0 : ug 0 = f 0 := h1 0 (by omega)
  have hh : sr_L_sea (ug 0) - sr_L_level ug = sr_X1_head f := by
    unfold sr_X1_head
    rw [g0, hN.1, sea_L hT, lev_L (h1 1 (by omega)) (h1 2 (by omega))]
  have hb : sr_L_birds ug = sr_X1_isBirdHour f := bird_L g0 (h1 6 (by omega)) (h1 7 (by omega))
  have k8 : ug 8 = se 0 := h2 0 (by omega)
  have k9 : ug 9 = se 1 := h2 1 (by omega)
  have k10 : ug 10 = se 2 := h2 2 (by omega)
  generalize sr_X1_head f = p at hz hh ⊢
  obtain ⟨⟨a1, b1, c1⟩, ⟨a2, b2, c2⟩, ⟨a3, b3, c3⟩⟩ := thr_b (se := se) hN hz hz2
  have nlt : ∀ x y : Int32, x ≤ y → ¬ y < x := fun x y h => by rw [Int32.le_iff_toInt_le] at h; rw [Int32.lt_iff_toInt_lt]; omega
  have nle : ∀ x y : Int32, ¬ x ≤ y → y < x := fun x y h => by rw [Int32.le_iff_toInt_le] at h; rw [Int32.lt_iff_toInt_lt]; omega
  have x1 : xv32_1_L_weigh ug = xv29_1_X4_foresee f p := by
    unfold xv32_1_L_weigh j32_0_L_weigh xv29_1_X4_foresee j29_0_X4_foresee
    rw [hb, hh, h1 3 (by omega), Int32.mul_assoc, Int32.mul_comm 2]
  have x2 : xv55_2_L_weigh ug = xv53_2_X4_foresee f se p := by
    unfold xv55_2_L_weigh j55_0_L_weigh xv53_2_X4_foresee j53_0_X4_foresee
    rw [hh, size_abs, k8, h1 4 (by omega)]
    by_cases c : se 0 ≤ ag_abs p
    · rw [if_pos c, if_neg (nlt _ _ c)]
    · rw [if_neg c, if_pos (nle _ _ c)]
  have x3 : xv83_3_L_weigh ug = xv80_3_X4_foresee f se p := by
    unfold xv83_3_L_weigh j83_0_L_weigh xv80_3_X4_foresee j80_0_X4_foresee
    rw [hh, hb, size_abs, k9, h1 5 (by omega)]
    by_cases c4 : ag_abs p ≤ se 1
    · rw [if_pos c4, if_neg (nlt _ _ c4)]
    · rw [if_neg c4, if_pos (nle _ _ c4)]
  have x4 : xv100_4_L_weigh ug = xv96_4_X4_foresee f se p := by
    unfold xv100_4_L_weigh xv96_4_X4_foresee
    rw [x2, hh, size_abs, size_abs]
  have x5 : xv120_5_L_weigh ug = xv115_5_X4_foresee f se p := by
    unfold xv120_5_L_weigh xv115_5_X4_foresee
    rw [x3, hh, size_abs, size_abs]
  obtain ⟨w, hw, hw2⟩ := hN.2.1
  obtain ⟨s, hs, hs2⟩ := hN.2.2.1
  have x0 : (xv29_1_X4_foresee f p + xv53_2_X4_foresee f se p + xv80_3_X4_foresee f se p).toInt = a1 + a2 + a3 := i_add (i_add b1 b2 (by omega) (by omega)) b3 (by omega) (by omega)
  obtain ⟨b, e1, e2, e3, -⟩ := flow_eq hw2 hw x0 (by omega)
  have x6 : xv163_6_L_weigh ug = xv155_6_X4_foresee f se p := by
    unfold xv163_6_L_weigh j159_0_L_weigh xv155_6_X4_foresee
    rw [x1, x2, x3, h1 1 (by omega), Int32.add_assoc (f 1), Int32.add_assoc (f 1)]
    exact flow_L hw2 hw x0 (by omega)
  have e1 : (xv155_6_X4_foresee f se p).toInt = b := e1
  obtain ⟨s1, -⟩ := silt_b (k := se 2) hs2 hs e1 (by omega)
  have s2 := silt_L (k := se 2) hs2 hs e1 (by omega)
  obtain ⟨v0, v1, v2, v3, v4, v5, v6⟩ := kf_v kf f se p
  obtain ⟨u0, u1, u2, u3, u4, u5, u6⟩ := wg_v ug uf
  refine ⟨fun k hk => ?_, ?_, ?_, ?_, ?_⟩
  · rcases k with _ | _ | _ | _ | _ | _ | _ | k
    · exact u0.trans (x1.trans v0.symm)
    · exact u1.trans (x2.trans v1.symm)
    · exact u2.trans (x3.trans v2.symm)
    · exact u3.trans (x6.trans v3.symm)
    · exact u4.trans (x4.trans v4.symm)
    · exact u5.trans (x5.trans v5.symm)
    · refine u6.trans (Eq.trans ?_ v6.symm)
      rw [← s2]
      unfold xv251_7_L_weigh j251_0_L_weigh j250_0_L_weigh
      rw [x6, k10, h1 2 (by omega), size_abs]
    · omega
  · rw [v3, hw]
    exact ⟨(w + b).toNat, i_nat (i_add (nI_toInt (by omega)) e1 (by omega) (by omega)) (by omega) (by omega), by omega⟩
  · rw [v6]; exact s1
  · rw [v3, e1]; omega
  · rw [v6]
    obtain ⟨q, q1, q2⟩ := s1
    generalize (if xv155_6_X4_foresee f se p ≤ 0 then if -(se 2) < xv155_6_X4_foresee f se p then 0 else -(ag_min ((-(xv155_6_X4_foresee f se p)) / 20) (f 2)) else ag_min (xv155_6_X4_foresee f se p / 50) (20000 - f 2)) = y at q1 ⊢
    have g1 : y = nI q - nI s := by rw [← q1, hs, Int32.add_comm, Int32.add_sub_cancel]
    have g2 := pk_sub_toInt (a := q) (b := s) (by omega) (by omega)
    rw [g1, g2]
    omega
