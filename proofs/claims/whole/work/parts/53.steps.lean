/-! a call of both: the answer, and what stands behind it -/
theorem st_gates {hf f se to re tf ch : Nat → Int32} {sf sse sto sre : Nat → Nat → Int32} {mf ms mp mx : Nat → Int32} (h : RZ hf f se to re tf ch sf sse sto sre mf ms mp mx) (p1 : Int32) : sr_X5_gates f p1 = sr_X6_gates ms p1 ∧ RZ (sw1_X5_gates hf f p1) (sw19_X5_gates f p1) (sw20_X5_gates f se p1) (sw21_X5_gates f to p1) (sw22_X5_gates f re p1) tf ch (fw_sf_X5_gates hf f p1 sf) (fw_sse_X5_gates hf f se p1 sse) (fw_sto_X5_gates hf f to p1 sto) (fw_sre_X5_gates hf f re p1 sre) (sw0_X6_gates mf p1) (sw1_X6_gates ms p1) (sw2_X6_gates mf ms mp p1) mx := by
  obtain ⟨⟨T, hT⟩, -⟩ := id h
  have k := gates_rel (p := p1) hT.1
  have e : CZ hf f se to re tf ch sf sse sto sre (sr_X1_openGates f p1) (sw0_X1_openGates f p1) se to re (sw0_X6_gates mf p1) (sw1_X6_gates ms p1) (sw2_X6_gates mf ms mp p1) mx := by
    rcases k.2.2 with ⟨i, e⟩ | ⟨i, e⟩
    · unfold sw0_X6_gates sw2_X6_gates gv13_1_X6_gates gv13_3_X6_gates sw0_X6_sets sw2_X6_sets gv1_1_X6_sets gv1_2_X6_sets
      rw [if_neg i, if_neg i]
      exact CZ_yes h e ⟨k.2.1, hT.2⟩ rfl rfl rfl
    · unfold sw0_X6_gates sw1_X6_gates sw2_X6_gates
      rw [if_pos i, if_pos i, if_pos i]
      exact CZ_no h (by rw [e]; decide)
  refine ⟨?_, ?_⟩
  · unfold sr_X5_gates sr_X5_settle
    exact k.1
  · unfold CZ at e
    unfold fw_sf_X5_gates fw_sre_X5_gates fw_sse_X5_gates fw_sto_X5_gates sw19_X5_gates sw1_X5_gates sw20_X5_gates sw21_X5_gates sw22_X5_gates gv20_10_X5_gates gv20_2_X5_gates gv20_3_X5_gates gv20_4_X5_gates gv20_5_X5_gates gv20_6_X5_gates gv20_7_X5_gates gv20_8_X5_gates gv20_9_X5_gates gv17_1_X5_gates
    exact e
theorem st_turbines {hf f se to re tf ch : Nat → Int32} {sf sse sto sre : Nat → Nat → Int32} {mf ms mp mx : Nat → Int32} (h : RZ hf f se to re tf ch sf sse sto sre mf ms mp mx) (p1 : Int32) : sr_X5_turbines f p1 = sr_X6_turbines ms p1 ∧ RZ (sw1_X5_turbines hf f p1) (sw19_X5_turbines f p1) (sw20_X5_turbines f se p1) (sw21_X5_turbines f to p1) (sw22_X5_turbines f re p1) tf ch (fw_sf_X5_turbines hf f p1 sf) (fw_sse_X5_turbines hf f se p1 sse) (fw_sto_X5_turbines hf f to p1 sto) (fw_sre_X5_turbines hf f re p1 sre) (sw0_X6_turbines mf p1) (sw1_X6_turbines ms p1) (sw2_X6_turbines mf ms mp p1) mx := by
  obtain ⟨⟨T, hT⟩, -⟩ := id h
  have k := turbines_rel (p := p1) hT.1
  have e : CZ hf f se to re tf ch sf sse sto sre (sr_X1_openTurbines f p1) (sw0_X1_openTurbines f p1) se to re (sw0_X6_turbines mf p1) (sw1_X6_turbines ms p1) (sw2_X6_turbines mf ms mp p1) mx := by
    rcases k.2.2 with ⟨i, e⟩ | ⟨i, e⟩
    · unfold sw0_X6_turbines sw2_X6_turbines gv13_1_X6_turbines gv13_3_X6_turbines sw0_X6_sets sw2_X6_sets gv1_1_X6_sets gv1_2_X6_sets
      rw [if_neg i, if_neg i]
      exact CZ_yes h e ⟨k.2.1, hT.2⟩ rfl rfl rfl
    · unfold sw0_X6_turbines sw1_X6_turbines sw2_X6_turbines
      rw [if_pos i, if_pos i, if_pos i]
      exact CZ_no h (by rw [e]; decide)
  refine ⟨?_, ?_⟩
  · unfold sr_X5_turbines sr_X5_settle
    exact k.1
  · unfold CZ at e
    unfold fw_sf_X5_turbines fw_sre_X5_turbines fw_sse_X5_turbines fw_sto_X5_turbines sw19_X5_turbines sw1_X5_turbines sw20_X5_turbines sw21_X5_turbines sw22_X5_turbines gv20_10_X5_turbines gv20_2_X5_turbines gv20_3_X5_turbines gv20_4_X5_turbines gv20_5_X5_turbines gv20_6_X5_turbines gv20_7_X5_turbines gv20_8_X5_turbines gv20_9_X5_turbines gv17_1_X5_turbines
    exact e
theorem st_pump {hf f se to re tf ch : Nat → Int32} {sf sse sto sre : Nat → Nat → Int32} {mf ms mp mx : Nat → Int32} (h : RZ hf f se to re tf ch sf sse sto sre mf ms mp mx) (p1 : Int32) : sr_X5_pump f p1 = sr_X6_pump ms p1 ∧ RZ (sw1_X5_pump hf f p1) (sw19_X5_pump f p1) (sw20_X5_pump f se p1) (sw21_X5_pump f to p1) (sw22_X5_pump f re p1) tf ch (fw_sf_X5_pump hf f p1 sf) (fw_sse_X5_pump hf f se p1 sse) (fw_sto_X5_pump hf f to p1 sto) (fw_sre_X5_pump hf f re p1 sre) (sw0_X6_pump mf p1) (sw1_X6_pump ms p1) (sw2_X6_pump mf ms mp p1) mx := by
  obtain ⟨⟨T, hT⟩, -⟩ := id h
  have k := pump_rel (p := p1) hT.1
  have e : CZ hf f se to re tf ch sf sse sto sre (sr_X1_setPump f p1) (sw0_X1_setPump f p1) se to re (sw0_X6_pump mf p1) (sw1_X6_pump ms p1) (sw2_X6_pump mf ms mp p1) mx := by
    rcases k.2.2 with ⟨i, e⟩ | ⟨i, e⟩
    · unfold sw0_X6_pump sw2_X6_pump gv16_1_X6_pump gv16_3_X6_pump sw0_X6_sets sw2_X6_sets gv1_1_X6_sets gv1_2_X6_sets
      rw [if_neg i, if_neg i]
      exact CZ_yes h e ⟨k.2.1, hT.2⟩ rfl rfl rfl
    · unfold sw0_X6_pump sw1_X6_pump sw2_X6_pump
      rw [if_pos i, if_pos i, if_pos i]
      exact CZ_no h (by rw [e]; decide)
  refine ⟨?_, ?_⟩
  · unfold sr_X5_pump sr_X5_settle
    exact k.1
  · unfold CZ at e
    unfold fw_sf_X5_pump fw_sre_X5_pump fw_sse_X5_pump fw_sto_X5_pump sw19_X5_pump sw1_X5_pump sw20_X5_pump sw21_X5_pump sw22_X5_pump gv20_10_X5_pump gv20_2_X5_pump gv20_3_X5_pump gv20_4_X5_pump gv20_5_X5_pump gv20_6_X5_pump gv20_7_X5_pump gv20_8_X5_pump gv20_9_X5_pump gv17_1_X5_pump
    exact e
theorem st_birds {hf f se to re tf ch : Nat → Int32} {sf sse sto sre : Nat → Nat → Int32} {mf ms mp mx : Nat → Int32} (h : RZ hf f se to re tf ch sf sse sto sre mf ms mp mx) (p1 p2 : Int32) : sr_X5_birds p1 p2 = sr_X6_birds p1 p2 ∧ RZ (sw1_X5_birds hf p1 p2) (sw19_X5_birds f p1 p2) (sw20_X5_birds se p1 p2) (sw21_X5_birds to p1 p2) (sw22_X5_birds re p1 p2) tf ch (fw_sf_X5_birds hf f p1 p2 sf) (fw_sse_X5_birds hf se p1 p2 sse) (fw_sto_X5_birds hf to p1 p2 sto) (fw_sre_X5_birds hf re p1 p2 sre) (sw0_X6_birds mf p1 p2) (sw1_X6_birds ms p1 p2) (sw2_X6_birds mf ms mp p1 p2) mx := by
  obtain ⟨⟨T, hT⟩, -⟩ := id h
  have k := birds_rel (p := p1) (q := p2) hT.1
  have e : CZ hf f se to re tf ch sf sse sto sre (sr_X1_setBirds p1 p2) (sw0_X1_setBirds f p1 p2) se to re (sw0_X6_birds mf p1 p2) (sw1_X6_birds ms p1 p2) (sw2_X6_birds mf ms mp p1 p2) mx := by
    rcases k.2.2 with ⟨i, i2, e⟩ | ⟨i, e⟩
    · unfold sw0_X6_birds sw2_X6_birds gv26_1_X6_birds gv26_2_X6_birds
      rw [if_neg i, if_neg i2, if_neg i, if_neg i2]
      exact CZ_yes h e ⟨k.2.1, hT.2⟩ rfl rfl rfl
    · have m0 : sw0_X6_birds mf p1 p2 = mf := by unfold sw0_X6_birds; rcases i with i | i; (rw [if_pos i]); (rw [if_pos i]; split <;> rfl)
      have m1 : sw1_X6_birds ms p1 p2 = ms := by unfold sw1_X6_birds; rcases i with i | i; (rw [if_pos i]); (rw [if_pos i]; split <;> rfl)
      have m2 : sw2_X6_birds mf ms mp p1 p2 = mp := by unfold sw2_X6_birds; rcases i with i | i; (rw [if_pos i]); (rw [if_pos i]; split <;> rfl)
      rw [m0, m1, m2]
      exact CZ_no h (by rw [e]; decide)
  refine ⟨?_, ?_⟩
  · unfold sr_X5_birds sr_X5_settle
    exact k.1
  · unfold CZ at e
    unfold fw_sf_X5_birds fw_sre_X5_birds fw_sse_X5_birds fw_sto_X5_birds sw19_X5_birds sw1_X5_birds sw20_X5_birds sw21_X5_birds sw22_X5_birds gv21_10_X5_birds gv21_2_X5_birds gv21_3_X5_birds gv21_4_X5_birds gv21_5_X5_birds gv21_6_X5_birds gv21_7_X5_birds gv21_8_X5_birds gv21_9_X5_birds gv18_1_X5_birds
    exact e
theorem st_run {hf f se to re tf ch kf : Nat → Int32} {sf sse sto sre : Nat → Nat → Int32} {mf ms mp mx : Nat → Int32} (h : RZ hf f se to re tf ch sf sse sto sre mf ms mp mx) (p1 : Int32) : sr_X5_run f se to re kf p1 = sr_X6_run mf ms p1 ∧ RZ (sw1_X5_run hf f se to re kf p1) (sw19_X5_run f se to re kf p1) (sw20_X5_run f se to re kf p1) (sw21_X5_run f se to re kf p1) (sw22_X5_run f se to re kf p1) tf ch (fw_sf_X5_run hf f se to re kf p1 sf) (fw_sse_X5_run hf f se to re kf p1 sse) (fw_sto_X5_run hf f se to re kf p1 sto) (fw_sre_X5_run hf f se to re kf p1 sre) (sw0_X6_run mf ms p1) (sw1_X6_run mf ms p1) (sw2_X6_run mf ms mp p1) mx := by
  obtain ⟨⟨T, hT⟩, -⟩ := id h
  have k := run_rel (kf := kf) (mf := mf) (p := p1) hT.2.1 hT.1
  have e : CZ hf f se to re tf ch sf sse sto sre (sr_X1_runTicks f se to re kf p1) (sw0_X1_runTicks f se to re kf p1) se (sw2_X1_runTicks f se to re kf p1) (sw3_X1_runTicks f se to re kf p1) (sw0_X6_run mf ms p1) (sw1_X6_run mf ms p1) (sw2_X6_run mf ms mp p1) mx := by
    obtain ⟨k0, ⟨U, U1, U2⟩, k3⟩ := k
    rcases k3 with ⟨i, i2, e⟩ | ⟨i, e⟩ | ⟨i, e⟩
    · have m2 : sw2_X6_run mf ms mp p1 = chP mf ms mp := by
        unfold sw2_X6_run gv32_2_X6_run
        rw [if_neg i, if_pos i2]
      have m0 : sw0_X6_run mf ms p1 = (mtl p1.toNatClampNeg (chF mf, ms)).1 := by
        unfold sw0_X6_run gv37_3_X6_run gv32_1_X6_run
        rw [if_neg i, if_pos i2]
      rw [m0, m2]
      exact CZ_yes h e ⟨U2, U1, hT.2.2⟩ (mtl_ne (by omega) _ _) (mtl_ne (by omega) _ _) (mtl_ne (by omega) _ _)
    · unfold sw0_X6_run sw1_X6_run sw2_X6_run
      rw [if_pos i, if_pos i, if_pos i]
      exact CZ_no h (by rw [e]; decide)
    · have m0 : sw0_X6_run mf ms p1 = mf := by unfold sw0_X6_run; rw [if_neg i]; split <;> rfl
      have m1 : sw1_X6_run mf ms p1 = ms := by unfold sw1_X6_run; rw [if_neg i]; split <;> rfl
      have m2 : sw2_X6_run mf ms mp p1 = mp := by unfold sw2_X6_run; rw [if_neg i]; split <;> rfl
      rw [m0, m1, m2]
      exact CZ_no h (by rw [e]; decide)
  refine ⟨?_, ?_⟩
  · unfold sr_X5_run sr_X5_settle
    exact k.1
  · unfold CZ at e
    unfold fw_sf_X5_run fw_sre_X5_run fw_sse_X5_run fw_sto_X5_run sw19_X5_run sw1_X5_run sw20_X5_run sw21_X5_run sw22_X5_run gv24_10_X5_run gv24_11_X5_run gv24_12_X5_run gv24_13_X5_run gv24_5_X5_run gv24_6_X5_run gv24_7_X5_run gv24_8_X5_run gv24_9_X5_run gv21_1_X5_run gv21_2_X5_run gv21_3_X5_run
    exact e
theorem st_dredge {hf f se to re tf ch : Nat → Int32} {sf sse sto sre : Nat → Nat → Int32} {mf ms mp mx : Nat → Int32} (h : RZ hf f se to re tf ch sf sse sto sre mf ms mp mx) (p1 : Int32) : sr_X5_dredge f p1 = sr_X6_dredge ms p1 ∧ RZ (sw1_X5_dredge hf f p1) (sw19_X5_dredge f p1) (sw20_X5_dredge f se p1) (sw21_X5_dredge f to p1) (sw22_X5_dredge f re p1) tf ch (fw_sf_X5_dredge hf f p1 sf) (fw_sse_X5_dredge hf f se p1 sse) (fw_sto_X5_dredge hf f to p1 sto) (fw_sre_X5_dredge hf f re p1 sre) (sw0_X6_dredge mf ms p1) (sw1_X6_dredge ms p1) (sw2_X6_dredge mf ms mp p1) mx := by
  obtain ⟨⟨T, hT⟩, -⟩ := id h
  have k := dredge_rel (p := p1) hT.1
  have e : CZ hf f se to re tf ch sf sse sto sre (sr_X1_dredgeSilt f p1) (sw0_X1_dredgeSilt f p1) se (sw2_X1_dredgeSilt f to p1) re (sw0_X6_dredge mf ms p1) (sw1_X6_dredge ms p1) (sw2_X6_dredge mf ms mp p1) mx := by
    rcases k.2.2 with ⟨i, i2, e⟩ | ⟨i, e⟩ | ⟨i, e⟩
    · unfold sw0_X6_dredge sw2_X6_dredge gv28_1_X6_dredge gv28_2_X6_dredge
      rw [if_neg i, if_pos i2, if_neg i, if_pos i2]
      exact CZ_yes h e ⟨k.2.1, hT.2⟩ rfl rfl rfl
    · unfold sw0_X6_dredge sw1_X6_dredge sw2_X6_dredge
      rw [if_pos i, if_pos i, if_pos i]
      exact CZ_no h (by rw [e]; decide)
    · have m0 : sw0_X6_dredge mf ms p1 = mf := by unfold sw0_X6_dredge; rw [if_neg i]; split <;> rfl
      have m1 : sw1_X6_dredge ms p1 = ms := by unfold sw1_X6_dredge; rw [if_neg i]; split <;> rfl
      have m2 : sw2_X6_dredge mf ms mp p1 = mp := by unfold sw2_X6_dredge; rw [if_neg i]; split <;> rfl
      rw [m0, m1, m2]
      exact CZ_no h (by rw [e]; decide)
  refine ⟨?_, ?_⟩
  · unfold sr_X5_dredge sr_X5_settle
    exact k.1
  · unfold CZ at e
    unfold fw_sf_X5_dredge fw_sre_X5_dredge fw_sse_X5_dredge fw_sto_X5_dredge sw19_X5_dredge sw1_X5_dredge sw20_X5_dredge sw21_X5_dredge sw22_X5_dredge gv20_10_X5_dredge gv20_11_X5_dredge gv20_3_X5_dredge gv20_4_X5_dredge gv20_5_X5_dredge gv20_6_X5_dredge gv20_7_X5_dredge gv20_8_X5_dredge gv20_9_X5_dredge gv17_2_X5_dredge gv17_1_X5_dredge
    exact e
theorem st_set {hf f se to re tf ch : Nat → Int32} {sf sse sto sre : Nat → Nat → Int32} {mf ms mp mx : Nat → Int32} (h : RZ hf f se to re tf ch sf sse sto sre mf ms mp mx) (p1 p2 : Int32) : sr_X5_set se p1 p2 = sr_X6_set ms p1 p2 ∧ RZ (sw1_X5_set hf se p1 p2) (sw19_X5_set f se p1 p2) (sw20_X5_set se p1 p2) (sw21_X5_set se to p1 p2) (sw22_X5_set se re p1 p2) tf ch (fw_sf_X5_set hf f se p1 p2 sf) (fw_sse_X5_set hf se p1 p2 sse) (fw_sto_X5_set hf se to p1 p2 sto) (fw_sre_X5_set hf se re p1 p2 sre) (sw0_X6_set mf p1 p2) (sw1_X6_set ms p1 p2) (sw2_X6_set mf ms mp p1 p2) mx := by
  obtain ⟨⟨T, hT⟩, -⟩ := id h
  have k := set_rel (p := p1) (q := p2) hT.1 hT.2.2
  have e : CZ hf f se to re tf ch sf sse sto sre (sr_X1_changeSetting se p1 p2) f (sw1_X1_changeSetting se p1 p2) to re (sw0_X6_set mf p1 p2) (sw1_X6_set ms p1 p2) (sw2_X6_set mf ms mp p1 p2) mx := by
    rcases k.2.2.2 with ⟨i, i2, e⟩ | ⟨i, e⟩
    · unfold sw0_X6_set sw2_X6_set gv39_1_X6_set gv39_3_X6_set sw0_X6_sets sw2_X6_sets gv1_1_X6_sets gv1_2_X6_sets
      rw [if_neg i, if_neg i2, if_neg i, if_neg i2]
      exact CZ_yes h e ⟨k.2.1, hT.2.1, k.2.2.1⟩ rfl rfl rfl
    · have m0 : sw0_X6_set mf p1 p2 = mf := by unfold sw0_X6_set; rcases i with i | i; (rw [if_pos i]); (rw [if_pos i]; split <;> rfl)
      have m1 : sw1_X6_set ms p1 p2 = ms := by unfold sw1_X6_set; rcases i with i | i; (rw [if_pos i]); (rw [if_pos i]; split <;> rfl)
      have m2 : sw2_X6_set mf ms mp p1 p2 = mp := by unfold sw2_X6_set; rcases i with i | i; (rw [if_pos i]); (rw [if_pos i]; split <;> rfl)
      rw [m0, m1, m2]
      exact CZ_no h (by rw [e]; decide)
  refine ⟨?_, ?_⟩
  · unfold sr_X5_set sr_X5_settle
    exact k.1
  · unfold CZ at e
    unfold fw_sf_X5_set fw_sre_X5_set fw_sse_X5_set fw_sto_X5_set sw19_X5_set sw1_X5_set sw20_X5_set sw21_X5_set sw22_X5_set gv21_10_X5_set gv21_2_X5_set gv21_3_X5_set gv21_4_X5_set gv21_5_X5_set gv21_6_X5_set gv21_7_X5_set gv21_8_X5_set gv21_9_X5_set gv18_1_X5_set
    exact e
theorem st_sea {hf f se to re tf ch : Nat → Int32} {sf sse sto sre : Nat → Nat → Int32} {mf ms mp mx : Nat → Int32} (h : RZ hf f se to re tf ch sf sse sto sre mf ms mp mx) (p1 : Int32) : sr_X5_sea p1 = sr_X6_sea p1 ∧ RZ hf f se to re tf ch sf sse sto sre mf ms mp mx := by
  exact ⟨q_sea p1, h⟩
theorem st_now {hf f se to re tf ch : Nat → Int32} {sf sse sto sre : Nat → Nat → Int32} {mf ms mp mx : Nat → Int32} (h : RZ hf f se to re tf ch sf sse sto sre mf ms mp mx) (p1 : Int32) : sr_X5_now f p1 = sr_X6_now ms p1 ∧ RZ hf f se to re tf ch sf sse sto sre mf ms mp mx := by
  obtain ⟨⟨T, hT⟩, -⟩ := id h
  exact ⟨q_now hT.1 p1, h⟩
theorem st_record {hf f se to re tf ch : Nat → Int32} {sf sse sto sre : Nat → Nat → Int32} {mf ms mp mx : Nat → Int32} (h : RZ hf f se to re tf ch sf sse sto sre mf ms mp mx) {T : Nat} (hT : LZ T f se to re ms) (p1 p2 : Int32) : sr_X5_record f re p1 p2 = sr_X6_record ms p1 p2 (nr T) ∧ RZ hf f se to re tf ch sf sse sto sre mf ms mp mx := by
  exact ⟨q_record hT.2.1 hT.1 p1 p2, h⟩
theorem st_next {hf f se to re tf ch kf : Nat → Int32} {sf sse sto sre : Nat → Nat → Int32} {mf ms mp mx : Nat → Int32} (h : RZ hf f se to re tf ch sf sse sto sre mf ms mp mx) (p1 : Int32) : sr_X5_next f se kf p1 = sr_X6_next mf ms p1 ∧ RZ hf f se to re tf ch sf sse sto sre (sw0_X6_next mf ms p1) ms mp mx := by
  obtain ⟨⟨T, hT⟩, -⟩ := id h
  refine ⟨q_next hT.2.1 hT.1 p1, ?_⟩
  refine RZ_mf h ?_ ?_ ?_ rfl
  all_goals
    unfold sw0_X6_next gv14_1_X6_next
    by_cases c : sr_X6_in p1 0 6 = 0
    · rw [if_pos c]
    · rw [if_neg c, weighs_ne (by omega)]
theorem st_would {hf f se to re tf ch kf : Nat → Int32} {sf sse sto sre : Nat → Nat → Int32} {mf ms mp mx : Nat → Int32} (h : RZ hf f se to re tf ch sf sse sto sre mf ms mp mx) (p1 p2 : Int32) : sr_X5_would f se to re kf p1 p2 = sr_X6_would mf ms p1 p2 ∧ RZ hf f se to re tf ch sf sse sto sre (sw0_X6_would mf ms p1 p2) ms mp mx := by
  obtain ⟨⟨T, hT⟩, -⟩ := id h
  refine ⟨q_would hT.2.1 hT.1 p1 p2, ?_⟩
  refine RZ_mf h ?_ ?_ ?_ rfl
  all_goals
    unfold sw0_X6_would gv36_1_X6_would
    repeat' split
    all_goals first
      | rfl
      | exact mtl_ne (by omega) _ _
theorem st_seaAt {hf f se to re tf ch : Nat → Int32} {sf sse sto sre : Nat → Nat → Int32} {mf ms mp mx : Nat → Int32} (h : RZ hf f se to re tf ch sf sse sto sre mf ms mp mx) (p1 : Int32) : sr_X5_seaAt f p1 = sr_X6_seaAt ms p1 ∧ RZ hf f se to re tf ch sf sse sto sre mf ms mp mx := by
  obtain ⟨⟨T, hT⟩, -⟩ := id h
  exact ⟨q_seaAt hT.1 p1, h⟩
theorem mbL_ne {N k : Nat} {ms : Nat → Int32} (hk : k < 3 ∨ 10 ≤ k) : ∀ (n i : Nat) (x : mbu), (mbL N ms n i x).2.2 k = x.2.2 k
  | 0, _, _ => rfl
  | n + 1, i, x => by
    rw [mbL, mbL_ne hk n (i + 1)]
    unfold mbS mbT
    dsimp only
    exact mtl_ne hk _ _
theorem mgL_ne {N k : Nat} {ms : Nat → Int32} {lv : Int32} (hk : k < 3 ∨ 10 ≤ k) : ∀ (n i : Nat) (x : mbu), (mgL N ms lv n i x).2.2 k = x.2.2 k
  | 0, _, _ => rfl
  | n + 1, i, x => by
    rw [mgL, mgL_ne hk n (i + 1)]
    unfold mgS mbT
    dsimp only
    exact mtl_ne hk _ _
theorem st_best {hf f se to re tf ch of ose oto ore kf : Nat → Int32} {sf sse sto sre : Nat → Nat → Int32} {mf ms mp mx : Nat → Int32} (h : RZ hf f se to re tf ch sf sse sto sre mf ms mp mx) (p1 p2 : Int32) : sr_X5_best f se to re of ose oto ore kf p1 p2 = sr_X6_best mf ms p1 p2 ∧ RZ hf f se to re tf ch sf sse sto sre (bestW mf ms p1 p2) ms mp mx := by
  obtain ⟨⟨T, hT⟩, -⟩ := id h
  refine ⟨q_best hT.2.1 hT.1 p1 p2, ?_⟩
  refine RZ_mf h ?_ ?_ ?_ rfl
  all_goals
    unfold bestW mbX
    repeat' split
    all_goals first
      | rfl
      | exact mbL_ne (by omega) _ _ _
theorem st_gatesFor {hf f se to re tf ch of ose oto ore kf : Nat → Int32} {sf sse sto sre : Nat → Nat → Int32} {mf ms mp mx : Nat → Int32} (h : RZ hf f se to re tf ch sf sse sto sre mf ms mp mx) (p1 p2 : Int32) : sr_X5_gatesFor f se to re of ose oto ore kf p1 p2 = sr_X6_gatesFor mf ms p1 p2 ∧ RZ hf f se to re tf ch sf sse sto sre (gatesW mf ms p1 p2) ms mp mx := by
  obtain ⟨⟨T, hT⟩, -⟩ := id h
  refine ⟨q_gatesFor hT.2.1 hT.1 p1 p2, ?_⟩
  refine RZ_mf h ?_ ?_ ?_ rfl
  all_goals
    unfold gatesW mgX
    repeat' split
    all_goals first
      | rfl
      | exact mgL_ne (by omega) _ _ _
theorem st_bestDay {hf f se to re tf ch : Nat → Int32} {sf sse sto sre : Nat → Nat → Int32} {mf ms mp mx : Nat → Int32} (h : RZ hf f se to re tf ch sf sse sto sre mf ms mp mx) {T : Nat} (hT : LZ T f se to re ms) : (bdL re (nd T - nr T) (nr T) 0 ((-1000000004), (-1))).1 = sr_X6_bestDay ms (nr T) ∧ RZ hf f se to re tf ch sf sse sto sre mf ms mp mx := by
  exact ⟨q_bestDay hT.2.1 hT.1, h⟩
theorem st_count {hf f se to re tf ch : Nat → Int32} {sf sse sto sre : Nat → Nat → Int32} {mf ms mp mx : Nat → Int32} (h : RZ hf f se to re tf ch sf sse sto sre mf ms mp mx) (p1 : Int32) : sr_X5_count hf f se to tf p1 = sr_X6_count mf ms p1 ∧ RZ hf f se to re tf ch sf sse sto sre mf ms mp mx := by
  obtain ⟨⟨T, hT⟩, ⟨o, z, g0, g1, g2, g3, g4, g5⟩, ⟨t, ht⟩, -⟩ := id h
  exact ⟨q_count hT.2.1 hT.1 (g2.trans g4.symm) ht p1, h⟩
theorem st_undo {hf f se to re tf ch : Nat → Int32} {sf sse sto sre : Nat → Nat → Int32} {mf ms mp mx : Nat → Int32} (h : RZ hf f se to re tf ch sf sse sto sre mf ms mp mx) : sr_X5_undo hf = sr_X6_undo mf ∧ RZ (sw1_X5_undo hf) (sw19_X5_undo hf f sf) (sw20_X5_undo hf se sse) (sw21_X5_undo hf to sto) (sw22_X5_undo hf re sre) tf ch sf sse sto sre (unF mf) (unS mf ms mp) mp mx := by
  exact undo_rel h
theorem st_type {hf f se to re tf ch : Nat → Int32} {sf sse sto sre : Nat → Nat → Int32} {mf ms mp mx : Nat → Int32} (h : RZ hf f se to re tf ch sf sse sto sre mf ms mp mx) (p1 : Int32) : sr_X5_type tf p1 = sr_X6_type mf p1 ∧ RZ hf f se to re (sw24_X5_type tf p1) (sw25_X5_type tf ch p1) sf sse sto sre (sw0_X6_type mf p1) ms mp (sw1_X6_type mf mx p1) := by
  obtain ⟨h1, h2, ⟨t, ht⟩, h4⟩ := id h
  obtain ⟨k1, k2, k3⟩ := q_type ht p1
  exact ⟨k1, h1, HZ_mf h2 (k3 0 (by omega)), k2, (k3 1 (by omega)).trans h4⟩
theorem st_clearText {hf f se to re tf ch : Nat → Int32} {sf sse sto sre : Nat → Nat → Int32} {mf ms mp mx : Nat → Int32} (h : RZ hf f se to re tf ch sf sse sto sre mf ms mp mx) : sr_X5_clearText tf = sr_X6_clearText mf ∧ RZ hf f se to re (sw24_X5_clearText tf) ch sf sse sto sre (sw0_X6_clearText mf) ms mp mx := by
  obtain ⟨h1, h2, ⟨t, ht⟩, h4⟩ := id h
  exact ⟨ht.1.trans ht.2.1.symm, h1, HZ_mf h2 rfl, ⟨0, TZ_0 ht⟩, h4⟩
theorem st_fault {hf f se to re pf tf ch kf : Nat → Int32} {sf sse sto sre : Nat → Nat → Int32} {mf ms mp mx md : Nat → Int32} (h : RZ hf f se to re tf ch sf sse sto sre mf ms mp mx) (p1 : Int32) : sr_X5_fault f se to re pf tf ch kf p1 = sr_X6_fault mf ms mp mx md p1 ∧ RZ hf f se to re (sw24_X5_fault f se to re pf tf ch kf p1) ch sf sse sto sre (sw0_X6_fault mf ms mp mx md p1) ms (sw2_X6_fault mf ms mp mx md p1) mx := by
  exact q_fault (pf := pf) (kf := kf) (mh := mf) (md := md) h p1
theorem st_play {hf f se to re pf tf ch kf : Nat → Int32} {sf sse sto sre : Nat → Nat → Int32} {mf ms mp mx md : Nat → Int32} (h : RZ hf f se to re tf ch sf sse sto sre mf ms mp mx) : sr_X5_play f se to re pf tf ch kf = sr_X6_play mf ms mp mx md ∧ RZ (sw1_X5_play hf f se to re pf tf ch kf) (sw19_X5_play f se to re pf tf ch kf) (sw20_X5_play f se to re pf tf ch kf) (sw21_X5_play f se to re pf tf ch kf) (sw22_X5_play f se to re pf tf ch kf) (sw24_X5_play f se to re pf tf ch kf) ch (fw_sf_X5_play hf f se to re pf tf ch kf sf) (fw_sse_X5_play hf f se to re pf tf ch kf sse) (fw_sto_X5_play hf f se to re pf tf ch kf sto) (fw_sre_X5_play hf f se to re pf tf ch kf sre) (sw0_X6_play mf ms mp mx md) (sw1_X6_play mf ms mp mx md) (sw2_X6_play mf ms mp mx md) mx := by
  have k := q_play (pf := pf) (kf := kf) (md := md) h
  refine ⟨k.1, ?_⟩
  have e := k.2
  unfold CZ at e
  unfold sw1_X5_play sw19_X5_play sw20_X5_play sw21_X5_play sw22_X5_play fw_sf_X5_play fw_sse_X5_play fw_sto_X5_play fw_sre_X5_play gv53_7_X5_play gv53_8_X5_play gv53_9_X5_play gv53_10_X5_play gv53_11_X5_play gv53_12_X5_play gv53_13_X5_play gv53_14_X5_play gv53_15_X5_play
  exact e
