/-! the whole state, in the class and in the model; the history -/
def SZ (se : Nat → Int32) : Prop := ∀ k, k < 3 → -1000 ≤ (se k).toInt
def LZ (T : Nat) (f se to re ms : Nat → Int32) : Prop := LR T f se to re ms ∧ T ≤ 9999 ∧ SZ se
def HZ (hf : Nat → Int32) (sf sse sto sre : Nat → Nat → Int32) (mf mp : Nat → Int32) : Prop := ∃ o z : Nat, hf 0 = nI o ∧ o < 4 ∧ hf 1 = nI z ∧ z ≤ 4 ∧ mf 0 = nI z ∧ ∀ i, i < z → ∃ T, LZ T (sf ((o + i) % 4)) (sse ((o + i) % 4)) (sto ((o + i) % 4)) (sre ((o + i) % 4)) (fun j => mp (89 * i + j))
def TZ (t : Nat) (tf ch mf mx : Nat → Int32) : Prop := tf 0 = nI t ∧ mf 2 = nI t ∧ t ≤ 60 ∧ TX_ t ch mx
def RZ (hf f se to re tf ch : Nat → Int32) (sf sse sto sre : Nat → Nat → Int32) (mf ms mp mx : Nat → Int32) : Prop := (∃ T, LZ T f se to re ms) ∧ HZ hf sf sse sto sre mf mp ∧ (∃ t, TZ t tf ch mf mx) ∧ mf 1 = 0
theorem LR_cg {T : Nat} {f se to re ms mt : Nat → Int32} (h : LR T f se to re ms) (e : ∀ j, j < 89 → mt j = ms j) : LR T f se to re mt := by
  obtain ⟨hN, h1, h2, h3, h4, h5, h6⟩ := h
  have hn := nr_le T
  exact ⟨hN, fun k hk => (e k (by omega)).trans (h1 k hk), fun k hk => (e _ (by omega)).trans (h2 k hk), fun k hk => (e _ (by omega)).trans (h3 k hk),
    ⟨(e 18 (by omega)).trans h4.1, fun k hk => (e _ (by omega)).trans (h4.2.1 k hk), fun k hk j hj => (e _ (by omega)).trans (h4.2.2 k hk j hj)⟩, h5, h6⟩
theorem LZ_cg {T : Nat} {f se to re ms mt : Nat → Int32} (h : LZ T f se to re ms) (e : ∀ j, j < 89 → mt j = ms j) : LZ T f se to re mt := ⟨LR_cg h.1 e, h.2⟩
theorem rox_nI {a : Nat} (h : a < 2 ^ 31) : rox (nI a) = a % 4 ∧ sr_J9_floorMod_7cf53 (nI a) 4 = nI (a % 4) := by
  have e : sr_J9_floorMod_7cf53 (nI a) 4 = nI (a % 4) := by
    unfold sr_J9_floorMod_7cf53
    rw [show (4 : Int32) = nI 4 from rfl, if_pos ((ag_xor_sign (nI a) (by decide)).mpr (nI_pos' h)), pk_rem h (by decide) (by decide)]
  refine ⟨?_, e⟩
  unfold rox
  rw [e, nI_clamp (by omega)]
theorem pwr_in {g f : Nat → Int32} {a i j : Nat} (h : j < i) : pwr g a f i (a + j) = f j := by unfold pwr; rw [if_pos (by omega), Nat.add_sub_cancel_left]
theorem pwr_out {g f : Nat → Int32} {a i j : Nat} (h : j < a ∨ a + i ≤ j) : pwr g a f i j = g j := by unfold pwr; rw [if_neg (by omega)]
theorem vu_eq {g : Nat → Nat → Int32} {k : Nat} {v : Nat → Int32} : va_up g k v k = v := by unfold va_up; rw [if_pos rfl]
theorem vu_ne {g : Nat → Nat → Int32} {k j : Nat} {v : Nat → Int32} (h : ¬ j = k) : va_up g k v j = g j := by unfold va_up; rw [if_neg h]
/-- a state more is kept -/
theorem keep_rel {hf f se to re : Nat → Int32} {sf sse sto sre : Nat → Nat → Int32} {mf ms mp : Nat → Int32} {T : Nat} (h : HZ hf sf sse sto sre mf mp) (hL : LZ T f se to re ms) (hm : mf 1 = 0) :
    HZ (hk_k hf) (va_up sf (rox (hf 0 + hf 1)) f) (va_up sse (rox (hf 0 + hf 1)) se) (va_up sto (rox (hf 0 + hf 1)) to) (va_up sre (rox (hf 0 + hf 1)) re) (chF mf) (chP mf ms mp) := by
  obtain ⟨o, z, h0, h1, h2, h3, h4, h5⟩ := h
  have e : rox (hf 0 + hf 1) = (o + z) % 4 := by rw [h0, h2, nI_add]; exact (rox_nI (by omega)).1
  have ep : pOf mf = z := by unfold pOf; rw [h4, nI_clamp (by omega)]
  rw [e]
  unfold hk_k chF chP
  rw [if_pos hm, if_pos hm]
  by_cases c : z = 4
  · subst c
    rw [if_pos (show (4 : Int32) ≤ hf 1 by rw [h2]; decide), if_pos (show mf 0 = 4 from h4), if_pos (show mf 0 = 4 from h4)]
    have er : sr_X0_rowOf hf 1 = nI ((o + 1) % 4) := by
      unfold sr_X0_rowOf
      rw [h0, show (1 : Int32) = nI 1 from rfl, nI_add]
      exact (rox_nI (by omega)).2
    refine ⟨(o + 1) % 4, 4, by rw [upd_eq, er], by omega, by rw [upd_ne (by omega)]; exact h2, by omega, by rw [upd_eq, upd_eq, h4]; rfl, fun i hi => ?_⟩
    by_cases ci : i = 3
    · subst ci
      rw [show ((o + 1) % 4 + 3) % 4 = (o + 4) % 4 by omega, vu_eq, vu_eq, vu_eq, vu_eq]
      exact ⟨T, LZ_cg hL (fun j hj => pwr_in hj)⟩
    · have en : ¬ ((o + 1) % 4 + i) % 4 = (o + 4) % 4 := by omega
      rw [vu_ne en, vu_ne en, vu_ne en, vu_ne en, show ((o + 1) % 4 + i) % 4 = (o + (i + 1)) % 4 by omega]
      obtain ⟨U, hU⟩ := h5 (i + 1) (by omega)
      refine ⟨U, LZ_cg hU (fun j hj => ?_)⟩
      show pwr (psh mp 267) (89 * 3) ms 89 (89 * i + j) = mp (89 * (i + 1) + j)
      rw [pwr_out (by omega)]
      unfold psh
      rw [if_pos (by omega)]
      exact congrArg mp (by omega)
  · have c4 : ¬ mf 0 = 4 := fun e => c ((nI_eq (a := z) (b := 4) (by omega) (by decide)).mp (h4.symm.trans e))
    have c5 : ¬ (4 : Int32) ≤ hf 1 := fun e => c (by rw [h2] at e; have := (nI_leI (a := 4) (b := z) (by decide) (by omega)).mp e; omega)
    rw [if_neg c5, if_neg c4, if_neg c4, ep]
    refine ⟨o, z + 1, by rw [upd_ne (by omega)]; exact h0, h1, by rw [upd_eq, h2, nI_1], by omega, by rw [upd_eq, h4, nI_1], fun i hi => ?_⟩
    by_cases ci : i = z
    · subst ci
      rw [vu_eq, vu_eq, vu_eq, vu_eq]
      exact ⟨T, LZ_cg hL (fun j hj => pwr_in hj)⟩
    · have en : ¬ (o + i) % 4 = (o + z) % 4 := by omega
      rw [vu_ne en, vu_ne en, vu_ne en, vu_ne en]
      obtain ⟨U, hU⟩ := h5 i (by omega)
      refine ⟨U, LZ_cg hU (fun j hj => ?_)⟩
      show pwr mp (89 * z) ms 89 (89 * i + j) = mp (89 * i + j)
      rw [pwr_out (by omega)]
theorem HZ_cq {hf : Nat → Int32} {sf sse sto sre : Nat → Nat → Int32} {mf mp : Nat → Int32} (h : HZ hf sf sse sto sre mf mp) : cq mf := by
  obtain ⟨o, z, h0, h1, h2, h3, h4, h5⟩ := h
  exact ⟨z, h4, h3⟩
theorem HZ_mf {hf : Nat → Int32} {sf sse sto sre : Nat → Nat → Int32} {mf mg mp : Nat → Int32} (h : HZ hf sf sse sto sre mf mp) (e : mg 0 = mf 0) : HZ hf sf sse sto sre mg mp := by
  obtain ⟨o, z, h0, h1, h2, h3, h4, h5⟩ := h
  exact ⟨o, z, h0, h1, h2, h3, e.trans h4, h5⟩
/-- the class's end of a change, refused or made -/
theorem settle_no {hf f se to re og ose oto ore : Nat → Int32} {sf sse sto sre : Nat → Nat → Int32} {a : Int32} (h : ¬ sr_X5_isError a = 0) :
    sr_X5_settle a = a ∧ sw1_X5_settle hf a = hf ∧ fw_sf_X5_settle hf f a sf = sf ∧ fw_sse_X5_settle hf se a sse = sse ∧ fw_sto_X5_settle hf to a sto = sto ∧ fw_sre_X5_settle hf re a sre = sre ∧ sw19_X5_settle f og a = f ∧ sw20_X5_settle se ose a = se ∧ sw21_X5_settle to oto a = to ∧ sw22_X5_settle re ore a = re := by
  unfold sr_X5_settle sw1_X5_settle fw_sf_X5_settle fw_sse_X5_settle fw_sto_X5_settle fw_sre_X5_settle sw19_X5_settle sw20_X5_settle sw21_X5_settle sw22_X5_settle
  simp only [if_neg h]
  exact ⟨trivial, trivial, trivial, trivial, trivial, trivial, trivial, trivial, trivial, trivial⟩
theorem settle_yes {hf f se to re og ose oto ore : Nat → Int32} {sf sse sto sre : Nat → Nat → Int32} {a : Int32} (h : sr_X5_isError a = 0) :
    sr_X5_settle a = a ∧ sw1_X5_settle hf a = hk_k hf ∧ fw_sf_X5_settle hf f a sf = va_up sf (rox (hf 0 + hf 1)) f ∧ fw_sse_X5_settle hf se a sse = va_up sse (rox (hf 0 + hf 1)) se ∧ fw_sto_X5_settle hf to a sto = va_up sto (rox (hf 0 + hf 1)) to ∧ fw_sre_X5_settle hf re a sre = va_up sre (rox (hf 0 + hf 1)) re ∧
      sw19_X5_settle f og a = og ∧ sw20_X5_settle se ose a = ose ∧ sw21_X5_settle to oto a = oto ∧ sw22_X5_settle re ore a = ore := by
  unfold sr_X5_settle sw1_X5_settle fw_sf_X5_settle fw_sse_X5_settle fw_sto_X5_settle fw_sre_X5_settle sw19_X5_settle sw20_X5_settle sw21_X5_settle sw22_X5_settle gv15_1_X5_settle gv15_2_X5_settle gv15_3_X5_settle gv15_4_X5_settle gv15_5_X5_settle
  simp only [if_pos h]
  exact ⟨trivial, trivial, trivial, trivial, trivial, trivial, trivial, trivial, trivial, trivial⟩
/-- the state behind a change: M is what the model has behind it -/
def CZ (hf f se to re tf ch : Nat → Int32) (sf sse sto sre : Nat → Nat → Int32) (a : Int32) (og ose oto ore mf ms mp mx : Nat → Int32) : Prop :=
  RZ (sw1_X5_settle hf a) (sw19_X5_settle f og a) (sw20_X5_settle se ose a) (sw21_X5_settle to oto a) (sw22_X5_settle re ore a) tf ch (fw_sf_X5_settle hf f a sf) (fw_sse_X5_settle hf se a sse) (fw_sto_X5_settle hf to a sto) (fw_sre_X5_settle hf re a sre) mf ms mp mx
theorem CZ_no {hf f se to re tf ch og ose oto ore : Nat → Int32} {sf sse sto sre : Nat → Nat → Int32} {mf ms mp mx : Nat → Int32} {a : Int32} (h : RZ hf f se to re tf ch sf sse sto sre mf ms mp mx) (ha : ¬ sr_X5_isError a = 0) : CZ hf f se to re tf ch sf sse sto sre a og ose oto ore mf ms mp mx := by
  obtain ⟨s0, s1, s2, s3, s4, s5, s6, s7, s8, s9⟩ := settle_no (hf := hf) (f := f) (se := se) (to := to) (re := re) (og := og) (ose := ose) (oto := oto) (ore := ore) (sf := sf) (sse := sse) (sto := sto) (sre := sre) ha
  unfold CZ
  rw [s1, s2, s3, s4, s5, s6, s7, s8, s9]
  exact h
theorem CZ_yes {hf f se to re tf ch og ose oto ore : Nat → Int32} {sf sse sto sre : Nat → Nat → Int32} {mf ms mg mp mx : Nat → Int32} {a : Int32} {U : Nat} (h : RZ hf f se to re tf ch sf sse sto sre mf ms mp mx) (ha : sr_X5_isError a = 0) (hL : LZ U og ose oto ore mg) {mh : Nat → Int32} (m0 : mh 0 = chF mf 0) (m1 : mh 1 = chF mf 1) (m2 : mh 2 = chF mf 2) :
    CZ hf f se to re tf ch sf sse sto sre a og ose oto ore mh mg (chP mf ms mp) mx := by
  obtain ⟨s0, s1, s2, s3, s4, s5, s6, s7, s8, s9⟩ := settle_yes (hf := hf) (f := f) (se := se) (to := to) (re := re) (og := og) (ose := ose) (oto := oto) (ore := ore) (sf := sf) (sse := sse) (sto := sto) (sre := sre) ha
  obtain ⟨⟨T, h1⟩, h2, ⟨t, h3⟩, h4⟩ := h
  unfold CZ
  rw [s1, s2, s3, s4, s5, s6, s7, s8, s9]
  exact ⟨⟨U, hL⟩, HZ_mf (keep_rel h2 h1 h4) m0, ⟨t, h3.1, m2.trans ((chF_ne (by omega)).trans h3.2.1), h3.2.2⟩, m1.trans ((chF_ne (by omega)).trans h4)⟩
/-- the latest state comes back -/
theorem undo_rel {hf f se to re tf ch : Nat → Int32} {sf sse sto sre : Nat → Nat → Int32} {mf ms mp mx : Nat → Int32} (h : RZ hf f se to re tf ch sf sse sto sre mf ms mp mx) : sr_X5_undo hf = sr_X6_undo mf ∧
    RZ (sw1_X5_undo hf) (sw19_X5_undo hf f sf) (sw20_X5_undo hf se sse) (sw21_X5_undo hf to sto) (sw22_X5_undo hf re sre) tf ch sf sse sto sre (unF mf) (unS mf ms mp) mp mx := by
  obtain ⟨h1, h2, ⟨t, h3⟩, h4⟩ := id h
  obtain ⟨o, z, g0, g1, g2, g3, g4, g5⟩ := h2
  unfold sr_X5_undo sr_X6_undo sw1_X5_undo sw19_X5_undo sw20_X5_undo sw21_X5_undo sw22_X5_undo gv21_1_X5_undo gv21_2_X5_undo gv21_3_X5_undo gv21_4_X5_undo gv21_5_X5_undo unF unS gb_k gb_o
  by_cases c : z = 0
  · have c1 : hf 1 = 0 := by rw [g2, c]; rfl
    have c2 : mf 0 = 0 := by rw [g4, c]; rfl
    simp only [if_pos c1, if_pos c2]
    exact ⟨trivial, h⟩
  · obtain ⟨y, rfl⟩ : ∃ y, z = y + 1 := ⟨z - 1, by omega⟩
    have c1 : ¬ hf 1 = 0 := fun e => nI_ne0 (n := y + 1) (by omega) (by omega) (g2.symm.trans e)
    have c2 : ¬ mf 0 = 0 := fun e => nI_ne0 (n := y + 1) (by omega) (by omega) (g4.symm.trans e)
    have c3 : ¬ hf 1 ≤ 0 := fun e => nI_nle (n := y + 1) (by omega) (by omega) (g2 ▸ e)
    have ep : pOf mf - 1 = y := by unfold pOf; rw [g4, nI_clamp (by omega)]; omega
    have e : rox (hf 0 + (hf 1 - 1)) = (o + y) % 4 := by rw [g0, g2, nI_pred, nI_add]; exact (rox_nI (by omega)).1
    simp only [if_neg c1, if_neg c2, if_neg c3]
    rw [e, ep]
    obtain ⟨U, hU⟩ := g5 y (by omega)
    refine ⟨by rw [upd_eq, g2, g4], ⟨U, hU⟩, ⟨o, y, by rw [upd_ne (by omega)]; exact g0, g1, by rw [upd_eq, g2, nI_pred], by omega, by rw [upd_eq, g4, nI_pred], fun i hi => g5 i (by omega)⟩, ⟨t, h3.1, by rw [upd_ne (by omega)]; exact h3.2.1, h3.2.2⟩, by rw [upd_ne (by omega)]; exact h4⟩
