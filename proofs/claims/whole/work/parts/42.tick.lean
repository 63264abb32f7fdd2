/-! the class and the model: a tick -/
def wU (m : Nat → Int32) (a b c d e g h : Int32) : Nat → Int32 := upd (upd (upd (upd (upd (upd (upd (upd m 3 a) 4 b) 5 c) 7 d) 8 e) 6 g) 6 h) 9 0
theorem wU_v (m : Nat → Int32) (a b c d e g h : Int32) : wU m a b c d e g h 3 = a ∧ wU m a b c d e g h 4 = b ∧ wU m a b c d e g h 5 = c ∧ wU m a b c d e g h 6 = h ∧ wU m a b c d e g h 7 = d ∧ wU m a b c d e g h 8 = e ∧ wU m a b c d e g h 9 = 0 := ⟨rfl, rfl, rfl, rfl, rfl, rfl, rfl⟩
def wW (m : Nat → Int32) (a b c d e g h k x y : Int32) : Nat → Int32 := if h ≤ 0 then if -k < h then wU m a b c d e g h else upd (wU m a b c d e g h) 9 x else upd (wU m a b c d e g h) 9 y
theorem wW_v (m : Nat → Int32) (a b c d e g h k x y : Int32) : wW m a b c d e g h k x y 3 = a ∧ wW m a b c d e g h k x y 4 = b ∧ wW m a b c d e g h k x y 5 = c ∧ wW m a b c d e g h k x y 6 = h ∧ wW m a b c d e g h k x y 7 = d ∧ wW m a b c d e g h k x y 8 = e ∧ wW m a b c d e g h k x y 9 = if h ≤ 0 then if -k < h then 0 else x else y := by
  obtain ⟨h1, h2, h3, h4, h5, h6, h7⟩ := wU_v m a b c d e g h
  unfold wW
  split
  · split
    · exact ⟨h1, h2, h3, h4, h5, h6, h7⟩
    · exact ⟨h1, h2, h3, h4, h5, h6, upd_eq⟩
  · exact ⟨h1, h2, h3, h4, h5, h6, upd_eq⟩
theorem wg_form (mf ms : Nat → Int32) : sw0_X6_weighs mf ms = wW mf (xv74_1_X6_weighs ms) (xv94_2_X6_weighs ms) (xv112_3_X6_weighs ms) (xv131_4_X6_weighs ms) (xv153_5_X6_weighs ms) (xv171_6_X6_weighs ms) (xv231_7_X6_weighs ms) (ms 10) (xv345_8_X6_weighs ms) (xv287_9_X6_weighs ms) := by
  unfold sw0_X6_weighs wW wU
  rfl
def kU (m : Nat → Int32) (a b c d e g : Int32) : Nat → Int32 := upd (upd (upd (upd (upd (upd m 0 a) 1 b) 2 c) 4 d) 5 e) 3 g
theorem kU_v (m : Nat → Int32) (a b c d e g h : Int32) : kU m a b c d e g 3 = g ∧ upd (kU m a b c d e g) 6 h 0 = a ∧ upd (kU m a b c d e g) 6 h 1 = b ∧ upd (kU m a b c d e g) 6 h 2 = c ∧ upd (kU m a b c d e g) 6 h 3 = g ∧ upd (kU m a b c d e g) 6 h 4 = d ∧ upd (kU m a b c d e g) 6 h 5 = e ∧ upd (kU m a b c d e g) 6 h 6 = h := ⟨rfl, rfl, rfl, rfl, rfl, rfl, rfl, rfl⟩
theorem kf_form (kf f se : Nat → Int32) (p : Int32) : sw0_X4_foresee kf f se p = upd (kU kf (xv29_1_X4_foresee f p) (xv53_2_X4_foresee f se p) (xv80_3_X4_foresee f se p) (xv96_4_X4_foresee f se p) (xv115_5_X4_foresee f se p) (xv155_6_X4_foresee f se p)) 6 (sr_X4_siltOf (kU kf (xv29_1_X4_foresee f p) (xv53_2_X4_foresee f se p) (xv80_3_X4_foresee f se p) (xv96_4_X4_foresee f se p) (xv115_5_X4_foresee f se p) (xv155_6_X4_foresee f se p)) f se) := by
  unfold sw0_X4_foresee xv164_7_X4_foresee kU
  rfl
theorem kf_v (kf f se : Nat → Int32) (p : Int32) : sw0_X4_foresee kf f se p 0 = xv29_1_X4_foresee f p ∧ sw0_X4_foresee kf f se p 1 = xv53_2_X4_foresee f se p ∧ sw0_X4_foresee kf f se p 2 = xv80_3_X4_foresee f se p ∧ sw0_X4_foresee kf f se p 3 = xv155_6_X4_foresee f se p ∧ sw0_X4_foresee kf f se p 4 = xv96_4_X4_foresee f se p ∧ sw0_X4_foresee kf f se p 5 = xv115_5_X4_foresee f se p ∧
    sw0_X4_foresee kf f se p 6 = (if xv155_6_X4_foresee f se p ≤ 0 then if -(se 2) < xv155_6_X4_foresee f se p then 0 else -(ag_min ((-(xv155_6_X4_foresee f se p)) / 20) (f 2)) else ag_min (xv155_6_X4_foresee f se p / 50) (20000 - f 2)) := by
  rw [kf_form]
  unfold sr_X4_siltOf
  generalize xv29_1_X4_foresee f p = a
  generalize xv53_2_X4_foresee f se p = b
  generalize xv80_3_X4_foresee f se p = c
  generalize xv96_4_X4_foresee f se p = d
  generalize xv115_5_X4_foresee f se p = e
  generalize xv155_6_X4_foresee f se p = g
  obtain ⟨h0, -⟩ := kU_v kf a b c d e g 0
  rw [h0]
  obtain ⟨-, h1, h2, h3, h4, h5, h6, h7⟩ := kU_v kf a b c d e g (if g ≤ 0 then if -(se 2) < g then 0 else -(ag_min ((-g) / 20) (f 2)) else ag_min (g / 50) (20000 - f 2))
  exact ⟨h1, h2, h3, h4, h5, h6, h7⟩
theorem lev_rel {ms f : Nat → Int32} (h1 : ms 1 = f 1) (h2 : ms 2 = f 2) : sr_X6_level ms = sr_X1_level f := by unfold sr_X6_level sr_X1_level; rw [h1, h2]
theorem head_rel {ms f : Nat → Int32} (h0 : ms 0 = f 0) (h1 : ms 1 = f 1) (h2 : ms 2 = f 2) : sr_X6_head ms = sr_X1_head f := by unfold sr_X6_head sr_X1_head; rw [rel_sea, h0, lev_rel h1 h2]
theorem bird_rel {ms f : Nat → Int32} (h0 : ms 0 = f 0) (h6 : ms 6 = f 6) (h7 : ms 7 = f 7) : sr_X6_isBirds ms = sr_X1_isBirdHour f := by unfold sr_X6_isBirds sr_X1_isBirdHour; rw [h0, h6, h7]
/-- what the model weighs is what the class foresees -/
theorem wg_rel {T : Nat} {f se kf mf ms : Nat → Int32} (hT : T < 2 ^ 31) (hN : NB T f) (h1 : ∀ k, k < 8 → ms k = f k) (h2 : ∀ k, k < 3 → ms (8 + k) = se k) :
    (sw0_X6_weighs mf ms 3 = sw0_X4_foresee kf f se (sr_X1_head f) 0 ∧ sw0_X6_weighs mf ms 4 = sw0_X4_foresee kf f se (sr_X1_head f) 1 ∧ sw0_X6_weighs mf ms 5 = sw0_X4_foresee kf f se (sr_X1_head f) 2 ∧ sw0_X6_weighs mf ms 6 = sw0_X4_foresee kf f se (sr_X1_head f) 3 ∧
      sw0_X6_weighs mf ms 7 = sw0_X4_foresee kf f se (sr_X1_head f) 4 ∧ sw0_X6_weighs mf ms 8 = sw0_X4_foresee kf f se (sr_X1_head f) 5 ∧ sw0_X6_weighs mf ms 9 = sw0_X4_foresee kf f se (sr_X1_head f) 6) ∧
    (∃ w : Nat, f 1 + sw0_X4_foresee kf f se (sr_X1_head f) 3 = nI w ∧ w ≤ 80000) ∧ (∃ s : Nat, f 2 + sw0_X4_foresee kf f se (sr_X1_head f) 6 = nI s ∧ s ≤ 20000) ∧
    (∃ q : Nat, sw0_X4_foresee kf f se (sr_X1_head f) 4 = nI q ∧ q ≤ 53016) ∧ (∃ q : Nat, sw0_X4_foresee kf f se (sr_X1_head f) 5 = nI q ∧ q ≤ 4800) ∧ (sw0_X4_foresee kf f se (sr_X1_head f) 3).toInt.natAbs ≤ 80000 ∧ (sw0_X4_foresee kf f se (sr_X1_head f) 6).toInt.natAbs ≤ 20000 := by
  obtain ⟨z, hz, hz2⟩ := head_b hT hN
  have hh : sr_X6_head ms = sr_X1_head f := head_rel (h1 0 (by omega)) (h1 1 (by omega)) (h1 2 (by omega))
  have hb : sr_X6_isBirds ms = sr_X1_isBirdHour f := bird_rel (h1 0 (by omega)) (h1 6 (by omega)) (h1 7 (by omega))
  have k8 : ms 8 = se 0 := h2 0 (by omega)
  have k9 : ms 9 = se 1 := h2 1 (by omega)
  have k10 : ms 10 = se 2 := h2 2 (by omega)
  generalize sr_X1_head f = p at hz hh ⊢
  obtain ⟨⟨a1, b1, c1⟩, ⟨a2, b2, c2⟩, ⟨a3, b3, c3⟩⟩ := thr_b (se := se) hN hz hz2
  have x1 : xv74_1_X6_weighs ms = xv29_1_X4_foresee f p := by
    unfold xv74_1_X6_weighs j74_0_X6_weighs xv29_1_X4_foresee j29_0_X4_foresee
    rw [hb, hh, h1 3 (by omega)]
  have x2 : xv94_2_X6_weighs ms = xv53_2_X4_foresee f se p := by
    unfold xv94_2_X6_weighs j94_0_X6_weighs j24_0_X6_weighs xv53_2_X4_foresee j53_0_X4_foresee
    rw [hh, size_abs, k8, h1 4 (by omega)]
    by_cases c : ag_abs p < se 0
    · rw [if_pos c, if_pos c, if_pos rfl]
    · rw [if_neg c, if_neg c, if_neg (by decide)]
  have x3 : xv112_3_X6_weighs ms = xv80_3_X4_foresee f se p := by
    unfold xv112_3_X6_weighs j112_0_X6_weighs j51_0_X6_weighs xv80_3_X4_foresee j80_0_X4_foresee
    rw [hh, hb, size_abs, k9, h1 5 (by omega)]
    by_cases c : sr_X1_isBirdHour f = 0
    · rw [if_pos c, if_pos c]
      by_cases c4 : se 1 < ag_abs p
      · rw [if_pos c4, if_pos c4, if_pos rfl]
      · rw [if_neg c4, if_neg c4, if_neg (by decide)]
    · rw [if_neg c, if_neg c, if_pos rfl]
  have x4 : xv131_4_X6_weighs ms = xv96_4_X4_foresee f se p := by
    unfold xv131_4_X6_weighs xv96_4_X4_foresee
    rw [x2, hh, size_abs, size_abs]
  have x5 : xv153_5_X6_weighs ms = xv115_5_X4_foresee f se p := by
    unfold xv153_5_X6_weighs xv115_5_X4_foresee
    rw [x3, hh, size_abs, size_abs]
  obtain ⟨w, hw, hw2⟩ := hN.2.1
  obtain ⟨s, hs, hs2⟩ := hN.2.2.1
  have x0 : (xv29_1_X4_foresee f p + xv53_2_X4_foresee f se p + xv80_3_X4_foresee f se p).toInt = a1 + a2 + a3 := i_add (i_add b1 b2 (by omega) (by omega)) b3 (by omega) (by omega)
  obtain ⟨b, e1, e2, e3, e4⟩ := flow_eq hw2 hw x0 (by omega)
  have x6 : xv231_7_X6_weighs ms = xv155_6_X4_foresee f se p := by
    unfold xv231_7_X6_weighs j231_0_X6_weighs xv171_6_X6_weighs xv155_6_X4_foresee
    rw [x1, x2, x3, h1 1 (by omega)]
    exact e4
  have e1 : (xv155_6_X4_foresee f se p).toInt = b := e1
  obtain ⟨s1, s2⟩ := silt_b (k := se 2) hs2 hs e1 (by omega)
  obtain ⟨v0, v1, v2, v3, v4, v5, v6⟩ := kf_v kf f se p
  rw [wg_form]
  obtain ⟨u0, u1, u2, u3, u4, u5, u6⟩ := wW_v mf (xv74_1_X6_weighs ms) (xv94_2_X6_weighs ms) (xv112_3_X6_weighs ms) (xv131_4_X6_weighs ms) (xv153_5_X6_weighs ms) (xv171_6_X6_weighs ms) (xv231_7_X6_weighs ms) (ms 10) (xv345_8_X6_weighs ms) (xv287_9_X6_weighs ms)
  refine ⟨⟨by rw [u0, v0, x1], by rw [u1, v1, x2], by rw [u2, v2, x3], by rw [u3, v3, x6], by rw [u4, v4, x4], by rw [u5, v5, x5], ?_⟩, ?_, ?_, ?_, ?_, ?_, ?_⟩
  · rw [u6, v6, ← s2]
    unfold xv345_8_X6_weighs xv287_9_X6_weighs j345_0_X6_weighs j287_0_X6_weighs
    rw [x6, k10, h1 2 (by omega)]
  · rw [v3, hw]
    exact ⟨(w + b).toNat, i_nat (i_add (nI_toInt (by omega)) e1 (by omega) (by omega)) (by omega) (by omega), by omega⟩
  · rw [v6]; exact s1
  · rw [v4]; exact made_b hN hz hz2
  · rw [v5]; exact used_b hN hz hz2
  · rw [v3, e1]; omega
  · rw [v6]
    obtain ⟨q, q1, q2⟩ := s1
    generalize (if xv155_6_X4_foresee f se p ≤ 0 then if -(se 2) < xv155_6_X4_foresee f se p then 0 else -(ag_min ((-(xv155_6_X4_foresee f se p)) / 20) (f 2)) else ag_min (xv155_6_X4_foresee f se p / 50) (20000 - f 2)) = y at q1 ⊢
    have g1 : y = nI q - nI s := by rw [← q1, hs, Int32.add_comm, Int32.add_sub_cancel]
    have g2 := pk_sub_toInt (a := q) (b := s) (by omega) (by omega)
    rw [g1, g2]
    omega
