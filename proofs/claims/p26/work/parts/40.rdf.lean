/-! what areRecords rests on -/
def j65_0_L_areRecords (T : Nat) : Int32 := if (nI (T / 144)) ≤ 11 then 0 else (nI (T / 144)) - 11
def j98_0_L_areRecords (ud : Nat → Int32) (i : Nat) : Int32 := if (ud (i % 10)) = (nI i) then 1 else 0
def j112_0_L_areRecords (ud : Nat → Int32) (i : Nat) : Int32 := if (j98_0_L_areRecords ud i) = 0 then 0 else 1
def j142_0_L_areRecords (ur : Nat → Int32) (ud : Nat → Int32) (i : Nat) (bb : Int32) (mo : Int32) : Int32 := if (j98_0_L_areRecords ud i) = 0 then bb else if (ur (i % 10 * 6)) ≤ mo then bb else nI i
def j179_0_L_areRecords (ur : Nat → Int32) (ud : Nat → Int32) (i : Nat) (mo : Int32) : Int32 := if (j98_0_L_areRecords ud i) = 0 then mo else if (ur (i % 10 * 6)) ≤ mo then mo else ur (i % 10 * 6)
def j227_0_L_areRecords (ur : Nat → Int32) (ud : Nat → Int32) (i : Nat) (k : Nat) : Int32 := if (j98_0_L_areRecords ud i) = 0 then (-1000000004) else ur (i % 10 * 6 + k)
theorem days {T : Nat} {f : Nat → Int32} (hT : T < 2 ^ 30) (h : f 0 = nI T) : sr_X1_lastDay f = nI (nd T) - 1 ∧ sr_X1_firstDay f = nI (nd T - nr T) := by
  have e : sr_X1_lastDay f = nI (nd T) - 1 := by
    unfold sr_X1_lastDay sr_J9_floorDiv_7cf53
    rw [h]
    by_cases c : T = 0
    · subst c
      decide
    · obtain ⟨U, rfl⟩ : ∃ U, T = U + 1 := ⟨T - 1, by omega⟩
      rw [nI_pred, show (144 : Int32) = nI 144 from rfl, if_pos ((ag_xor_sign (nI U) (by decide)).mpr (nI_pos' (by omega))), pk_div (by omega) (by decide) (by decide), show nd (U + 1) = U / 144 + 1 by unfold nd; omega, nI_pred]
  refine ⟨e, ?_⟩
  unfold sr_X1_firstDay
  rw [e, mx0]
  have b : nd T < 2 ^ 29 := by unfold nd; omega
  have t0 : (nI (nd T) - 1 - 10 + 1).toInt = (nd T : Int) - 1 - 10 + 1 := i_add (b := 1) (i_sub (b := 10) (i_sub (b := 1) (nI_toInt (by omega)) rfl (by omega) (by omega)) rfl (by omega) (by omega)) rfl (by omega) (by omega)
  by_cases c : nd T ≤ 10
  · have n1 : nr T = nd T := by unfold nr; rw [if_pos c]
    rw [if_pos (by rw [Int32.le_iff_toInt_le, t0, show (0 : Int32).toInt = 0 from rfl]; omega), n1, Nat.sub_self]
    rfl
  · have n1 : nr T = 10 := by unfold nr; rw [if_neg c]
    rw [if_neg (by rw [Int32.le_iff_toInt_le, t0, show (0 : Int32).toInt = 0 from rfl]; omega), n1]
    exact i_nat t0 (by omega) (by omega)

theorem nd_r (T : Nat) : nd T - nr T = nd T - 10 := by unfold nr; split <;> omega
def ixr (T i : Nat) : Nat := (if i < nd T then i else nd T) - (nd T - 10)
theorem ix_0 {T : Nat} : ixr T (T / 144 - 11) = 0 := by unfold ixr nd; split <;> omega
theorem sub11 {d : Nat} (h : d < 2 ^ 30) : (if nI d ≤ 11 then 0 else nI d - 11) = nI (d - 11) := by
  by_cases c : d ≤ 11
  · have c2 : nI d ≤ 11 := (nI_leI (b := 11) (by omega) (by decide)).mpr c
    rw [if_pos c2, show d - 11 = 0 by omega]; rfl
  · have c2 : ¬ nI d ≤ 11 := fun e => c ((nI_leI (b := 11) (by omega) (by decide)).mp e)
    rw [if_neg c2]
    exact pk_sub (b := 11) (by omega)
/-- the law's row of a day is that day's just where the class has its record -/
theorem th_is {T i : Nat} {f se to re g r d : Nat → Int32} (hT : T ≤ 9999) (hR : PR T f se to re g r d) (h1 : T / 144 - 11 ≤ i) (h2 : i < T / 144 + 2) : d (i % 10) = nI i ↔ i < nd T ∧ nd T ≤ i + 10 := by
  obtain ⟨-, -, -, -, h4, h5, -⟩ := hR
  have hb : T / 144 ≤ nd T ∧ nd T ≤ T / 144 + 1 := by unfold nd; omega
  have hb2 : nd T ≤ 70 := by unfold nd; omega
  constructor
  · intro e
    by_cases c : i < nd T ∧ nd T ≤ i + 10
    · exact c
    · exfalso
      by_cases c1 : i < nd T
      · have e2 := h4 (i + 10) (by omega) (by omega)
        rw [show (i + 10) % 10 = i % 10 by omega, e] at e2
        have := (nI_eq (by omega) (by omega)).mp e2
        omega
      · by_cases c2 : 10 ≤ i
        · have e2 := h4 (i - 10) (by omega) (by omega)
          rw [show (i - 10) % 10 = i % 10 by omega, e] at e2
          have := (nI_eq (by omega) (by omega)).mp e2
          omega
        · rw [show i % 10 = i by omega, h5 i (by omega) (by omega)] at e
          have e2 := congrArg Int32.toInt e
          rw [nI_toInt (by omega), show (-1 : Int32).toInt = -1 from rfl] at e2
          omega
  · rintro ⟨c1, c2⟩
    exact h4 i c1 c2
theorem th_0 {T i : Nat} {f se to re g r d : Nat → Int32} (hT : T ≤ 9999) (hR : PR T f se to re g r d) (h1 : T / 144 - 11 ≤ i) (h2 : i < T / 144 + 2) : (¬ j98_0_L_areRecords d i = 0 ∧ i < nd T ∧ nd T ≤ i + 10) ∨ (j98_0_L_areRecords d i = 0 ∧ ¬ (i < nd T ∧ nd T ≤ i + 10)) := by
  have h := th_is hT hR h1 h2
  unfold j98_0_L_areRecords
  by_cases c : d (i % 10) = nI i
  · rw [if_pos c]
    exact Or.inl ⟨by decide, h.mp c⟩
  · rw [if_neg c]
    exact Or.inr ⟨rfl, fun e => c (h.mpr e)⟩
theorem rec_m1 (f re : Nat → Int32) : sr_X5_record f re (-1) 0 = -1000000001 := by unfold sr_X5_record; rw [if_pos (by decide)]
theorem rec_6 (f re : Nat → Int32) : sr_X5_record f re 0 6 = -1000000001 := by unfold sr_X5_record; rw [if_neg (by decide), if_neg (by decide), if_neg (by decide)]
theorem rec_v {T i k : Nat} {f se to re g r d : Nat → Int32} (hT : T ≤ 9999) (hR : PR T f se to re g r d) (hi : i < 2 ^ 30) (hk : k < 6) : sr_X5_record f re (nI i) (nI k) = if i < nd T ∧ nd T ≤ i + 10 then re (i % 10 * 6 + k) else -1000000004 := by
  obtain ⟨d1, d2⟩ := days (by omega) hR.1.1
  have hb2 : nd T ≤ 70 := by unfold nd; omega
  have c6 : nI k < 6 := nI_lt (b := 6) hk (by decide)
  unfold sr_X5_record
  rw [if_neg (nn0 (by omega)), if_neg (nn0 (by omega)), if_pos c6, d1, d2, nd_r]
  have lastE : (nI i ≤ nI (nd T) - 1) ↔ i < nd T := by
    rw [Int32.le_iff_toInt_le, nI_toInt (by omega), i_sub (b := 1) (nI_toInt (n := nd T) (by omega)) rfl (by omega) (by omega)]
    omega
  by_cases c1 : nd T ≤ i + 10
  · rw [if_neg (nI_nlt (by omega) (by omega))]
    by_cases c2 : i < nd T
    · rw [if_pos (lastE.mpr c2), if_pos ⟨c2, c1⟩, rs_nI (by omega), nI_clamp (by omega)]
    · rw [if_neg (fun e => c2 (lastE.mp e)), if_neg (fun e => c2 e.1)]
  · rw [if_pos (nI_lt (by omega) (by omega)), if_neg (fun e => c1 e.2)]
theorem rec_is {T i k : Nat} {f se to re g r d : Nat → Int32} (hT : T ≤ 9999) (hR : PR T f se to re g r d) (h1 : T / 144 - 11 ≤ i) (h2 : i < T / 144 + 2) (hk : k < 6) : sr_X5_record f re (nI i) (nI k) = j227_0_L_areRecords r d i k := by
  rw [rec_v hT hR (by omega) hk]
  unfold j227_0_L_areRecords
  rcases th_0 hT hR h1 h2 with ⟨c, c1, c2⟩ | ⟨c, c1⟩
  · rw [if_neg c, if_pos ⟨c1, c2⟩]
    exact (hR.2.2.2.2.2.2.1 i c1 c2 k hk).symm
  · rw [if_pos c, if_neg c1]
theorem rec_hl {T i : Nat} {f se to re g r d : Nat → Int32} (hT : T ≤ 9999) (hR : PR T f se to re g r d) (h1 : T / 144 - 11 ≤ i) (h2 : i < T / 144 + 2) (c : ¬ j98_0_L_areRecords d i = 0) : ¬ sr_X5_record f re (nI i) 2 < sr_X5_record f re (nI i) 3 := by
  have e2 : sr_X5_record f re (nI i) 2 = _ := rec_v (k := 2) hT hR (by omega) (by omega)
  have e3 : sr_X5_record f re (nI i) 3 = _ := rec_v (k := 3) hT hR (by omega) (by omega)
  rcases th_0 hT hR h1 h2 with ⟨_, c1, c2⟩ | ⟨c1, _⟩
  · rw [e2, e3, if_pos ⟨c1, c2⟩, if_pos ⟨c1, c2⟩]
    exact Int32.not_lt.mpr (hR.2.2.2.2.2.2.2.1 i c1 c2)
  · exact absurd c1 c
theorem rec_bq {T : Nat} {f se to re g r d : Nat → Int32} (hT : T ≤ 9999) (hR : PR T f se to re g r d) : sr_X1_firstDay f = nI (nd T - 10) ∧ sr_X1_lastDay f = nI (nd T - 10 + (nd T - (nd T - 10))) - 1 ∧ nd T - 10 + (nd T - (nd T - 10)) < 2 ^ 30 := by
  obtain ⟨d1, d2⟩ := days (by omega) hR.1.1
  have hb2 : nd T ≤ 70 := by unfold nd; omega
  rw [nd_r] at d2
  rw [show nd T - 10 + (nd T - (nd T - 10)) = nd T by omega]
  exact ⟨d2, d1, by omega⟩
theorem ix_e {T i : Nat} (h : T / 144 + 2 ≤ i) : ixr T i = nd T - (nd T - 10) := by
  have hb : nd T ≤ T / 144 + 1 := by unfold nd; omega
  unfold ixr
  rw [if_neg (by omega)]
theorem rec_ct {T i : Nat} {hf tf f se to re g r d : Nat → Int32} {mm : Int32} (hT : T ≤ 9999) (hR : PR T f se to re g r d) (hm : mm = nI (ixr T i)) (hi : T / 144 + 2 ≤ i) : sr_X5_count hf f se to tf 7 = mm := by
  obtain ⟨q1, q2, -⟩ := rec_bq hT hR
  have hb2 : nd T ≤ 70 := by unfold nd; omega
  rw [hm, ix_e hi]
  unfold sr_X5_count
  rw [if_neg (by decide), if_pos (by decide), if_pos (by decide), if_pos rfl, q1, q2, show nd T - 10 + (nd T - (nd T - 10)) = nd T by omega]
  have t0 : (nI (nd T) - 1 - nI (nd T - 10) + 1).toInt = (nd T : Int) - 1 - (nd T - 10 : Nat) + 1 := i_add (b := 1) (i_sub (i_sub (b := 1) (nI_toInt (by omega)) rfl (by omega) (by omega)) (nI_toInt (by omega)) (by omega) (by omega)) rfl (by omega) (by omega)
  exact i_nat t0 (by omega) (by omega)
theorem rec_bd {T i : Nat} {re : Nat → Int32} {bb mo : Int32} (hb : bdL re (nd T - 10) (nd T - (nd T - 10) - ixr T i) (ixr T i) (bb, mo) = bdL re (nd T - 10) (nd T - (nd T - 10)) 0 ((-1000000004), (-1))) (hi : T / 144 + 2 ≤ i) : (bdL re (nd T - 10) (nd T - (nd T - 10)) 0 ((-1000000004), (-1))).1 = bb := by
  rw [← hb, ix_e hi, Nat.sub_self]
  rfl
theorem rec_st {T i : Nat} {f se to re ug ur ud : Nat → Int32} {mm bb mo : Int32} (hT : T ≤ 9999) (hR : PR T f se to re ug ur ud) (h1 : T / 144 - 11 ≤ i) (h2 : i < T / 144 + 2) (hm : mm = nI (ixr T i))
    (hb : bdL re (nd T - 10) (nd T - (nd T - 10) - ixr T i) (ixr T i) (bb, mo) = bdL re (nd T - 10) (nd T - (nd T - 10)) 0 ((-1000000004), (-1))) :
    mm + (j112_0_L_areRecords ud i) = nI (ixr T (i + 1)) ∧ bdL re (nd T - 10) (nd T - (nd T - 10) - ixr T (i + 1)) (ixr T (i + 1)) (j142_0_L_areRecords ur ud i bb mo, j179_0_L_areRecords ur ud i mo) = bdL re (nd T - 10) (nd T - (nd T - 10)) 0 ((-1000000004), (-1)) := by
  have hb2 : nd T ≤ 70 := by unfold nd; omega
  rcases th_0 hT hR h1 h2 with ⟨c, c1, c2⟩ | ⟨c, c1⟩
  · have e1 : ixr T i = i - (nd T - 10) := by unfold ixr; rw [if_pos c1]
    have e2 : ixr T (i + 1) = i - (nd T - 10) + 1 := by unfold ixr; split <;> omega
    have hr := hR.2.2.2.2.2.2.1 i c1 c2 0 (by omega)
    have hr : ur (i % 10 * 6) = re (i % 10 * 6 + 0) := hr
    rw [hm, e1, e2]
    unfold j112_0_L_areRecords j142_0_L_areRecords j179_0_L_areRecords
    simp only [if_neg c]
    refine ⟨nI_1 _, ?_⟩
    rw [← hb, e1]
    rw [show nd T - (nd T - 10) - (i - (nd T - 10)) = (nd T - (nd T - 10) - (i - (nd T - 10) + 1)) + 1 by omega, bdL, show nd T - 10 + (i - (nd T - 10)) = i by omega, rs_nI (by omega), hr]
  · have e2 : ixr T (i + 1) = ixr T i := by unfold ixr; split <;> split <;> omega
    rw [e2, hm]
    unfold j112_0_L_areRecords j142_0_L_areRecords j179_0_L_areRecords
    simp only [if_pos c]
    exact ⟨Int32.add_zero _, hb⟩
