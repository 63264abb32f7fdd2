/-! a tick: what stands before it alike stands behind it alike -/
def tk_c (ms g : Nat → Int32) : Nat → Int32 := upd (upd (upd (upd (upd (upd (upd (upd (upd ms 1 (ms 1 + g 6)) 2 (ms 2 + g 9)) 0 (ms 0 + 1)) 11 (ms 11 + g 7)) 12 (ms 12 + g 8)) 13 (ms 13 + (if g 6 ≤ 0 then 0 else g 6))) 14 (ms 14 + (if 0 ≤ g 6 then 0 else -(g 6)))) 16 (ms 16 + (if g 9 ≤ 0 then 0 else g 9))) 17 (ms 17 + (if 0 ≤ g 9 then 0 else -(g 9)))
def tk_w (G g : Nat → Int32) (a : Nat) : Nat → Int32 := upd (upd (upd (upd (upd (upd G (a + 1) (G (a + 1) + g 7)) (a + 2) (G (a + 2) + g 8)) (a + 3) (if sr_X6_level (upd (upd G (a + 1) (G (a + 1) + g 7)) (a + 2) (G (a + 2) + g 8)) ≤ G (a + 3) then G (a + 3) else sr_X6_level (upd (upd G (a + 1) (G (a + 1) + g 7)) (a + 2) (G (a + 2) + g 8))))
  (a + 4) (if G (a + 4) ≤ sr_X6_level (upd (upd (upd G (a + 1) (G (a + 1) + g 7)) (a + 2) (G (a + 2) + g 8)) (a + 3) (if sr_X6_level (upd (upd G (a + 1) (G (a + 1) + g 7)) (a + 2) (G (a + 2) + g 8)) ≤ G (a + 3) then G (a + 3) else sr_X6_level (upd (upd G (a + 1) (G (a + 1) + g 7)) (a + 2) (G (a + 2) + g 8))))
    then G (a + 4) else sr_X6_level (upd (upd (upd G (a + 1) (G (a + 1) + g 7)) (a + 2) (G (a + 2) + g 8)) (a + 3) (if sr_X6_level (upd (upd G (a + 1) (G (a + 1) + g 7)) (a + 2) (G (a + 2) + g 8)) ≤ G (a + 3) then G (a + 3) else sr_X6_level (upd (upd G (a + 1) (G (a + 1) + g 7)) (a + 2) (G (a + 2) + g 8))))))
  (a + 5) (G (a + 5) + (if g 6 ≤ 0 then 0 else g 6))) (a + 6) (G (a + 6) + (if 0 ≤ g 6 then 0 else -(g 6)))
set_option maxHeartbeats 4000000 in
theorem tick_form (mf ms : Nat → Int32) : sw1_X6_tick mf ms = tk_w (opW (tk_c ms (sw0_X6_weighs mf ms)) (ms 0 / 144) (nOf ms)) (sw0_X6_weighs mf ms) (19 + 7 * opK (tk_c ms (sw0_X6_weighs mf ms)) (ms 0 / 144) (nOf ms)) := by
  unfold sw1_X6_tick xv346_17_X6_tick j345_0_X6_tick xv318_16_X6_tick j317_0_X6_tick xv292_15_X6_tick j292_0_X6_tick xv254_14_X6_tick j254_0_X6_tick xv216_13_X6_tick xv201_12_X6_tick kv183_X6_tick gv183_11_X6_tick xv180_10_X6_tick j179_0_X6_tick xv154_9_X6_tick j153_0_X6_tick xv129_8_X6_tick j128_0_X6_tick xv103_7_X6_tick j102_0_X6_tick xv78_6_X6_tick xv64_5_X6_tick xv50_4_X6_tick xv40_3_X6_tick xv27_2_X6_tick gv1_1_X6_tick tk_w tk_c
  rfl
theorem tk_c_v (ms g : Nat → Int32) : tk_c ms g 0 = ms 0 + 1 ∧ tk_c ms g 1 = ms 1 + g 6 ∧ tk_c ms g 2 = ms 2 + g 9 ∧ (∀ k, 3 ≤ k → k < 11 → tk_c ms g k = ms k) ∧ tk_c ms g 11 = ms 11 + g 7 ∧ tk_c ms g 12 = ms 12 + g 8 ∧ tk_c ms g 13 = ms 13 + (if g 6 ≤ 0 then 0 else g 6) ∧ tk_c ms g 14 = ms 14 + (if 0 ≤ g 6 then 0 else -(g 6)) ∧ tk_c ms g 15 = ms 15 ∧
    tk_c ms g 16 = ms 16 + (if g 9 ≤ 0 then 0 else g 9) ∧ tk_c ms g 17 = ms 17 + (if 0 ≤ g 9 then 0 else -(g 9)) ∧ (∀ k, 18 ≤ k → tk_c ms g k = ms k) := by
  unfold tk_c
  refine ⟨?_, ?_, ?_, fun k k1 k2 => ?_, ?_, ?_, ?_, ?_, ?_, ?_, ?_, fun k k1 => ?_⟩
  · repeat rw [upd_ne (by omega)]
    rw [upd_eq]
  · repeat rw [upd_ne (by omega)]
    rw [upd_eq]
  · repeat rw [upd_ne (by omega)]
    rw [upd_eq]
  · rw [upd_ne (by omega), upd_ne (by omega), upd_ne (by omega), upd_ne (by omega), upd_ne (by omega), upd_ne (by omega), upd_ne (by omega), upd_ne (by omega), upd_ne (by omega)]
  · repeat rw [upd_ne (by omega)]
    rw [upd_eq]
  · repeat rw [upd_ne (by omega)]
    rw [upd_eq]
  · repeat rw [upd_ne (by omega)]
    rw [upd_eq]
  · repeat rw [upd_ne (by omega)]
    rw [upd_eq]
  · rw [upd_ne (by omega), upd_ne (by omega), upd_ne (by omega), upd_ne (by omega), upd_ne (by omega), upd_ne (by omega), upd_ne (by omega), upd_ne (by omega), upd_ne (by omega)]
  · repeat rw [upd_ne (by omega)]
    rw [upd_eq]
  · rw [upd_eq]
  · rw [upd_ne (by omega), upd_ne (by omega), upd_ne (by omega), upd_ne (by omega), upd_ne (by omega), upd_ne (by omega), upd_ne (by omega), upd_ne (by omega), upd_ne (by omega)]
theorem tk_w_v (G g : Nat → Int32) {a : Nat} (ha : 19 ≤ a) : (∀ k, k < a + 1 ∨ a + 7 ≤ k → tk_w G g a k = G k) ∧ tk_w G g a (a + 1) = G (a + 1) + g 7 ∧ tk_w G g a (a + 2) = G (a + 2) + g 8 ∧ tk_w G g a (a + 3) = (if sr_X6_level G ≤ G (a + 3) then G (a + 3) else sr_X6_level G) ∧ tk_w G g a (a + 4) = (if G (a + 4) ≤ sr_X6_level G then G (a + 4) else sr_X6_level G) ∧
    tk_w G g a (a + 5) = G (a + 5) + (if g 6 ≤ 0 then 0 else g 6) ∧ tk_w G g a (a + 6) = G (a + 6) + (if 0 ≤ g 6 then 0 else -(g 6)) := by
  have l : ∀ (F : Nat → Int32) (k : Nat) (v : Int32), 3 ≤ k → sr_X6_level (upd F k v) = sr_X6_level F := fun F k v hk => by unfold sr_X6_level; rw [upd_ne (by omega), upd_ne (by omega)]
  unfold tk_w
  rw [l _ (a + 3) _ (by omega), l _ (a + 2) _ (by omega), l _ (a + 1) _ (by omega)]
  refine ⟨fun k hk => ?_, ?_, ?_, ?_, ?_, ?_, ?_⟩
  · rw [upd_ne (by omega), upd_ne (by omega), upd_ne (by omega), upd_ne (by omega), upd_ne (by omega), upd_ne (by omega)]
  · rw [upd_ne (by omega), upd_ne (by omega), upd_ne (by omega), upd_ne (by omega), upd_ne (by omega), upd_eq]
  · rw [upd_ne (by omega), upd_ne (by omega), upd_ne (by omega), upd_ne (by omega), upd_eq]
  · rw [upd_ne (by omega), upd_ne (by omega), upd_ne (by omega), upd_eq]
  · rw [upd_ne (by omega), upd_ne (by omega), upd_eq]
  · rw [upd_ne (by omega), upd_eq]
  · rw [upd_eq]
theorem mx0 (x : Int32) : ag_max 0 x = if x ≤ 0 then 0 else x := by
  unfold ag_max
  by_cases c : x ≤ 0
  · rw [if_pos c, if_neg (Int32.not_lt.mpr c)]
  · rw [if_neg c, if_pos (Int32.not_le.mp c)]
theorem mx0n {x : Int32} (h : x.toInt.natAbs ≤ 80000) : ag_max 0 (-x) = if 0 ≤ x then 0 else -x := by
  have e := i_neg (x := x) rfl (by omega) (by omega)
  rw [mx0]
  by_cases c : 0 ≤ x
  · rw [if_pos c, if_pos (by rw [Int32.le_iff_toInt_le] at c ⊢; rw [e]; have e0 : (0 : Int32).toInt = 0 := rfl; omega)]
  · rw [if_neg c, if_neg (by rw [Int32.le_iff_toInt_le] at c ⊢; rw [e]; have e0 : (0 : Int32).toInt = 0 := rfl; omega)]
/-- the energy of every record kept is not below 0 -/
def MB (T : Nat) (re : Nat → Int32) : Prop := ∀ d, nd T - nr T ≤ d → d < nd T → ∃ q : Nat, re (d % 10 * 6) = nI q ∧ q ≤ 53016 * T
/-- the lagoon's state in the class and in the model: alike at the time T -/
def LR (T : Nat) (f se to re ms : Nat → Int32) : Prop :=
  NB T f ∧ (∀ k, k < 8 → ms k = f k) ∧ (∀ k, k < 3 → ms (8 + k) = se k) ∧ (∀ k, k < 7 → ms (11 + k) = to k) ∧ RR T re ms ∧ (∃ q : Nat, to 0 = nI q ∧ q ≤ 53016 * T) ∧ (∃ q : Nat, to 1 = nI q ∧ q ≤ 4800 * T) ∧ MB T re
theorem LR_mq {T : Nat} {f se to re ms : Nat → Int32} (h : LR T f se to re ms) : mq ms := ⟨nr T, h.2.2.2.2.1.1, (nr_le T).1⟩
theorem LR_n {T : Nat} {f se to re ms : Nat → Int32} (h : LR T f se to re ms) : nOf ms = nr T := by
  unfold nOf
  rw [h.2.2.2.2.1.1, nI_clamp (by have := (nr_le T).1; omega)]
/-- the class's record of the day, behind a tick -/
def en (W kf : Nat → Int32) (L : Int32) (q : Nat) : Nat → Int32 := upd (upd (upd (upd (upd (upd W (q + 0) (W (q + 0) + kf 4)) (q + 1) (W (q + 1) + kf 5)) (q + 2) (ag_max (W (q + 2)) L)) (q + 3) (ag_min (W (q + 3)) L)) (q + 4) (W (q + 4) + ag_max 0 (kf 3))) (q + 5) (W (q + 5) + ag_max 0 (-(kf 3)))
theorem en_v (W kf : Nat → Int32) (L : Int32) (q : Nat) : en W kf L q (q + 0) = W (q + 0) + kf 4 ∧ en W kf L q (q + 1) = W (q + 1) + kf 5 ∧ en W kf L q (q + 2) = ag_max (W (q + 2)) L ∧ en W kf L q (q + 3) = ag_min (W (q + 3)) L ∧ en W kf L q (q + 4) = W (q + 4) + ag_max 0 (kf 3) ∧ en W kf L q (q + 5) = W (q + 5) + ag_max 0 (-(kf 3)) ∧ (∀ k, k < q ∨ q + 6 ≤ k → en W kf L q k = W k) := by
  unfold en
  refine ⟨?_, ?_, ?_, ?_, ?_, ?_, fun k hk => ?_⟩
  · rw [upd_ne (by omega), upd_ne (by omega), upd_ne (by omega), upd_ne (by omega), upd_ne (by omega), upd_eq]
  · rw [upd_ne (by omega), upd_ne (by omega), upd_ne (by omega), upd_ne (by omega), upd_eq]
  · rw [upd_ne (by omega), upd_ne (by omega), upd_ne (by omega), upd_eq]
  · rw [upd_ne (by omega), upd_ne (by omega), upd_eq]
  · rw [upd_ne (by omega), upd_eq]
  · rw [upd_eq]
  · rw [upd_ne (by omega), upd_ne (by omega), upd_ne (by omega), upd_ne (by omega), upd_ne (by omega), upd_ne (by omega)]
theorem en_form {T : Nat} (hT : T < 2 ^ 31) {f re kf : Nat → Int32} (h0 : f 0 = nI T) : sw3_X1_enterRecord f re kf = en (bg re (sr_X1_level f) T) kf (sr_X1_level f) (T / 144 % 10 * 6) := by
  have e : rs (f 0 / 144) = T / 144 % 10 * 6 := by rw [h0, show (144 : Int32) = nI 144 from rfl, pk_div hT (by decide) (by decide), rs_nI (by omega)]
  have e2 : w34_3_X1_enterRecord f re = bg re (sr_X1_level f) T := by
    unfold w34_3_X1_enterRecord gv31_1_X1_enterRecord bg
    rw [e, h0, show (144 : Int32) = nI 144 from rfl, pk_rem hT (by decide) (by decide)]
    by_cases c : T % 144 = 0
    · rw [if_pos c, if_pos (by rw [c]; rfl)]
    · rw [if_neg c, if_neg (nI_ne0 (by omega) (by omega))]
  unfold sw3_X1_enterRecord xv48_2_X1_enterRecord xv63_3_X1_enterRecord xv83_4_X1_enterRecord xv103_5_X1_enterRecord xv122_6_X1_enterRecord xv142_7_X1_enterRecord en
  rw [e, e2]
/-- the last record of both, behind a tick -/
theorem rec_rel {T : Nat} {W G g kf : Nat → Int32} {L : Int32} (hR : RR (T + 1) W G) (hL : sr_X6_level G = L) (g6 : g 6 = kf 3) (g7 : g 7 = kf 4) (g8 : g 8 = kf 5) (hb : (kf 3).toInt.natAbs ≤ 80000) {a : Nat} (ha : a + 1 = nr (T + 1)) : RR (T + 1) (en W kf L (T / 144 % 10 * 6)) (tk_w G g (19 + 7 * a)) := by
  obtain ⟨h1, h2, h3⟩ := hR
  obtain ⟨t0, t1, t2, t3, t4, t5, t6⟩ := tk_w_v G g (a := 19 + 7 * a) (by omega)
  obtain ⟨e0, e1, e2, e3, e4, e5, e6⟩ := en_v W kf L (T / 144 % 10 * 6)
  have cd : nd (T + 1) = T / 144 + 1 := by unfold nd; omega
  have hn := nr_le (T + 1)
  refine ⟨(t0 18 (by omega)).trans h1, fun k hk => (t0 _ (by omega)).trans (h2 k hk), fun k hk => ?_⟩
  by_cases ck : k = a
  · subst ck
    have v := h3 k hk
    rw [show nd (T + 1) - nr (T + 1) + k = T / 144 by omega] at v ⊢
    refine six ?_ ?_ ?_ ?_ ?_ ?_
    · exact t1.trans ((congrArg (· + g 7) (v 0 (by omega))).trans ((congrArg (W _ + ·) g7).trans e0.symm))
    · exact t2.trans ((congrArg (· + g 8) (v 1 (by omega))).trans ((congrArg (W _ + ·) g8).trans e1.symm))
    · refine t3.trans (Eq.trans ?_ e2.symm)
      rw [hL, show G (19 + 7 * k + 3) = _ from v 2 (by omega)]
      unfold ag_max
      by_cases c : L ≤ W (T / 144 % 10 * 6 + 2)
      · rw [if_pos c, if_neg (Int32.not_lt.mpr c)]
      · rw [if_neg c, if_pos (Int32.not_le.mp c)]
    · refine t4.trans (Eq.trans ?_ e3.symm)
      rw [hL, show G (19 + 7 * k + 4) = _ from v 3 (by omega)]
      unfold ag_min
      by_cases c : W (T / 144 % 10 * 6 + 3) ≤ L
      · rw [if_pos c, if_neg (Int32.not_lt.mpr c)]
      · rw [if_neg c, if_pos (Int32.not_le.mp c)]
    · refine t5.trans (Eq.trans ?_ e4.symm)
      rw [show G (19 + 7 * k + 5) = _ from v 4 (by omega), g6, mx0]
    · refine t6.trans (Eq.trans ?_ e5.symm)
      rw [show G (19 + 7 * k + 6) = _ from v 5 (by omega), g6, mx0n hb]
  · intro j hj
    rw [t0 _ (by omega), h3 k hk j hj, e6 _ (by omega)]
theorem mb_tick {T qm : Nat} {re K : Nat → Int32} {L : Int32} (hT : T < 20000) (h : MB T re) (hk : K 4 = nI qm) (hq : qm ≤ 53016) : MB (T + 1) (en (bg re L T) K L (T / 144 % 10 * 6)) := by
  intro d d1 d2
  obtain ⟨e0, -, -, -, -, -, e6⟩ := en_v (bg re L T) K L (T / 144 % 10 * 6)
  obtain ⟨b0, -, -, -, -, -, b6⟩ := bg_v re L (T / 144 % 10 * 6)
  have c2 : nd (T + 1) = T / 144 + 1 := by unfold nd; omega
  have n2 : nd (T + 1) - nr (T + 1) = T / 144 + 1 - 10 := by unfold nr; rw [c2]; split <;> omega
  by_cases c : d = T / 144
  · subst c
    have e0 : en (bg re L T) K L (T / 144 % 10 * 6) (T / 144 % 10 * 6) = bg re L T (T / 144 % 10 * 6) + K 4 := e0
    rw [e0, hk]
    unfold bg
    by_cases c3 : T % 144 = 0
    · rw [if_pos c3]
      have b0 : sw3_X1_beginRecord re L (T / 144 % 10 * 6) (T / 144 % 10 * 6) = 0 := b0
      rw [b0, Int32.zero_add]
      exact ⟨qm, rfl, by omega⟩
    · rw [if_neg c3]
      have c4 : nd T = T / 144 + 1 := by unfold nd; omega
      obtain ⟨q, q1, q2⟩ := h (T / 144) (by unfold nr; rw [c4]; split <;> omega) (by omega)
      rw [q1, nI_add]
      exact ⟨_, rfl, by omega⟩
  · have hd : nd T - nr T ≤ d := by
      unfold nr nd at *
      split <;> omega
    have hd2 : d < nd T := by unfold nd; omega
    obtain ⟨q, q1, q2⟩ := h d hd hd2
    rw [e6 _ (by omega)]
    unfold bg
    split
    · rw [b6 _ (by omega), q1]
      exact ⟨q, rfl, by omega⟩
    · rw [q1]
      exact ⟨q, rfl, by omega⟩
set_option maxHeartbeats 4000000 in
theorem tick_rel {T : Nat} {f se to re kf mf ms : Nat → Int32} (hT : T < 20000) (h : LR T f se to re ms) :
    LR (T + 1) (lpS se (f, to, re, kf)).1 se (lpS se (f, to, re, kf)).2.1 (lpS se (f, to, re, kf)).2.2.1 (sw1_X6_tick mf ms) := by
  have hn := LR_n h
  obtain ⟨hN, h1, h2, h3, h4, ⟨q1, h5, h5b⟩, ⟨q2, h6, h6b⟩, h7⟩ := h
  obtain ⟨⟨w3, w4, w5, w6, w7, w8, w9⟩, ⟨nw, v1, v1b⟩, ⟨ns, v2, v2b⟩, ⟨qm, v3, v3b⟩, ⟨qu, v4, v4b⟩, v5, v6⟩ := wg_rel (kf := kf) (mf := mf) (by omega) hN h1 h2
  rw [tick_form, hn]
  unfold lpS lpK
  dsimp only
  generalize sw0_X6_weighs mf ms = g at w3 w4 w5 w6 w7 w8 w9 ⊢
  generalize sw0_X4_foresee kf f se (sr_X1_head f) = K at w3 w4 w5 w6 w7 w8 w9 v1 v2 v3 v4 v5 v6 ⊢
  obtain ⟨c0, c1, c2, c3, c11, c12, c13, c14, c15, c16, c17, c18⟩ := tk_c_v ms g
  have m0 := h1 0 (by omega)
  have hd : ms 0 / 144 = nI (T / 144) := by rw [m0, hN.1, show (144 : Int32) = nI 144 from rfl, pk_div (by omega) (by decide) (by decide)]
  rw [hd]
  have hR : RR T re (tk_c ms g) := ⟨(c18 18 (by omega)).trans h4.1, fun k hk => (c18 _ (by omega)).trans (h4.2.1 k hk), fun k hk j hj => (c18 _ (by omega)).trans (h4.2.2 k hk j hj)⟩
  obtain ⟨o1, o2, o3⟩ := op_rel (by omega) hR
  have F0 : sw0_X1_take f K 0 = nI T := hN.1
  have F1 : sw0_X1_take f K 1 = f 1 + K 3 := rfl
  have F2 : sw0_X1_take f K 2 = f 2 + K 6 := rfl
  have F3 : ∀ k, 3 ≤ k → sw0_X1_take f K k = f k := fun k hk => by unfold sw0_X1_take; rw [upd_ne (by omega), upd_ne (by omega)]
  have hL : sr_X6_level (tk_c ms g) = sr_X1_level (sw0_X1_take f K) := lev_rel (by rw [c1, F1, h1 1 (by omega), w6]) (by rw [c2, F2, h1 2 (by omega), w9])
  rw [hL] at o3
  rw [en_form (by omega) F0]
  generalize opW (tk_c ms g) (nI (T / 144)) (nr T) = G at o2 o3 ⊢
  generalize opK (tk_c ms g) (nI (T / 144)) (nr T) = a at o1 ⊢
  have hL2 : sr_X6_level G = sr_X1_level (sw0_X1_take f K) := by rw [← hL]; unfold sr_X6_level; rw [o2 1 (by omega), o2 2 (by omega)]
  have rr := rec_rel o3 hL2 w6 w7 w8 v5 o1
  have mb := mb_tick (L := sr_X1_level (sw0_X1_take f K)) (by omega) h7 v3 v3b
  obtain ⟨t0, -⟩ := tk_w_v G g (a := 19 + 7 * a) (by omega)
  have X : ∀ k, k < 18 → tk_w G g (19 + 7 * a) k = tk_c ms g k := fun k hk => (t0 k (by omega)).trans (o2 k hk)
  generalize tk_w G g (19 + 7 * a) = M at X rr ⊢
  generalize en (bg re (sr_X1_level (sw0_X1_take f K)) T) K (sr_X1_level (sw0_X1_take f K)) (T / 144 % 10 * 6) = RE at rr mb ⊢
  have T0 : sw2_X1_take to K 0 = to 0 + K 4 := rfl
  have T1 : sw2_X1_take to K 1 = to 1 + K 5 := rfl
  have T2 : sw2_X1_take to K 2 = to 2 + ag_max 0 (K 3) := rfl
  have T3 : sw2_X1_take to K 3 = to 3 + ag_max 0 (-(K 3)) := rfl
  have T4 : sw2_X1_take to K 4 = to 4 := rfl
  have T5 : sw2_X1_take to K 5 = to 5 + ag_max 0 (K 6) := rfl
  have T6 : sw2_X1_take to K 6 = to 6 + ag_max 0 (-(K 6)) := rfl
  generalize sw2_X1_take to K = TO at T0 T1 T2 T3 T4 T5 T6 ⊢
  generalize sw0_X1_take f K = F at F0 F1 F2 F3 ⊢
  refine ⟨⟨?_, ?_, ?_, ?_, ?_, ?_⟩, ?_, ?_, ?_, rr, ?_, ?_, mb⟩
  · rw [upd_eq, F0, nI_1]
  · rw [upd_ne (by omega), F1]; exact ⟨nw, v1, v1b⟩
  · rw [upd_ne (by omega), F2]; exact ⟨ns, v2, v2b⟩
  · rw [upd_ne (by omega), F3 3 (by omega)]; exact hN.2.2.2.1
  · rw [upd_ne (by omega), F3 4 (by omega)]; exact hN.2.2.2.2.1
  · rw [upd_ne (by omega), F3 5 (by omega)]; exact hN.2.2.2.2.2
  · intro k hk
    rw [X k (by omega)]
    by_cases k0 : k = 0
    · rw [k0, c0, upd_eq, F0, m0, hN.1]
    · rw [upd_ne k0]
      by_cases k1 : k = 1
      · rw [k1, c1, F1, h1 1 (by omega), w6]
      · by_cases k2 : k = 2
        · rw [k2, c2, F2, h1 2 (by omega), w9]
        · rw [c3 k (by omega) (by omega), F3 k (by omega), h1 k hk]
  · intro k hk
    rw [X _ (by omega), c3 _ (by omega) (by omega), h2 k hk]
  · intro k hk
    rw [X _ (by omega)]
    rcases k with _ | _ | _ | _ | _ | _ | _ | k
    · exact c11.trans (by rw [T0, w7, h3 0 (by omega)])
    · exact c12.trans (by rw [T1, w8, h3 1 (by omega)])
    · exact c13.trans (by rw [T2, w6, mx0, h3 2 (by omega)])
    · exact c14.trans (by rw [T3, w6, mx0n v5, h3 3 (by omega)])
    · exact c15.trans (by rw [T4, h3 4 (by omega)])
    · exact c16.trans (by rw [T5, w9, mx0, h3 5 (by omega)])
    · exact c17.trans (by rw [T6, w9, mx0n (by omega), h3 6 (by omega)])
    · omega
  · rw [T0, h5, v3]; exact ⟨q1 + qm, nI_add _ _, by omega⟩
  · rw [T1, h6, v4]; exact ⟨q2 + qu, nI_add _ _, by omega⟩
theorem lp_rel {se : Nat → Int32} : ∀ (n T : Nat) (x : ltu) (y : mtu), T + n ≤ 20000 → LR T x.1 se x.2.1 x.2.2.1 y.2 → LR (T + n) (lp se n x).1 se (lp se n x).2.1 (lp se n x).2.2.1 (mtl n y).2
  | 0, _, _, _, _, h => h
  | n + 1, T, x, y, hT, h => by
    rw [lp, mtl, show T + (n + 1) = T + 1 + n by omega]
    refine lp_rel n (T + 1) (lpS se x) (mtS y) (by omega) ?_
    have := tick_rel (kf := x.2.2.2) (mf := y.1) (by omega) h
    unfold mtS
    exact this
