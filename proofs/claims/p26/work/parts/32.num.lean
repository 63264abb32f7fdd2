/-! whole numbers and the machine's: sums, products, what a tick brings -/
theorem i_add {x y : Int32} {a b : Int} (hx : x.toInt = a) (hy : y.toInt = b) (h1 : -2147483648 ≤ a + b) (h2 : a + b < 2147483648) : (x + y).toInt = a + b := by
  rw [Int32.toInt_add, hx, hy, ag_bm h1 h2]
theorem i_sub {x y : Int32} {a b : Int} (hx : x.toInt = a) (hy : y.toInt = b) (h1 : -2147483648 ≤ a - b) (h2 : a - b < 2147483648) : (x - y).toInt = a - b := by
  rw [Int32.toInt_sub, hx, hy, ag_bm h1 h2]
theorem i_mul {x y : Int32} {a b : Int} (hx : x.toInt = a) (hy : y.toInt = b) (h1 : -2147483648 ≤ a * b) (h2 : a * b < 2147483648) : (x * y).toInt = a * b := by
  rw [Int32.toInt_mul, hx, hy, ag_bm h1 h2]
theorem i_neg {x : Int32} {a : Int} (hx : x.toInt = a) (h1 : -2147483648 ≤ -a) (h2 : -a < 2147483648) : (-x).toInt = -a := by
  rw [Int32.toInt_neg, hx, ag_bm h1 h2]
theorem i_lit (n : Nat) (h : n < 2 ^ 31) : (nI n).toInt = (n : Int) := nI_toInt h
theorem i_eq {x y : Int32} {a b : Int} (hx : x.toInt = a) (hy : y.toInt = b) (h : a = b) : x = y := Int32.toInt_inj.mp (by rw [hx, hy, h])
theorem i_nat {x : Int32} {a : Int} {n : Nat} (hx : x.toInt = a) (h : a = n) (hn : n < 2 ^ 31) : x = nI n := Int32.toInt_inj.mp (by rw [hx, nI_toInt hn, h])
theorem i_mulb {g z : Int} {n m : Nat} (hg : g.natAbs ≤ n) (hz : z.natAbs ≤ m) : (g * z).natAbs ≤ n * m := by
  rw [Int.natAbs_mul]; exact Nat.mul_le_mul hg hz
theorem i_abs {x : Int32} {a : Int} {n : Nat} (hx : x.toInt = a) (hn : a.natAbs ≤ n) (h : n < 2 ^ 31) : ag_abs x = nI a.natAbs := by
  unfold ag_abs
  by_cases c : 0 ≤ x
  · rw [if_pos c]
    have c2 := (ag_ge0 x).mp c
    exact i_nat hx (by omega) (by omega)
  · rw [if_neg c]
    have c2 : ¬ 0 ≤ x.toInt := fun e => c ((ag_ge0 x).mpr e)
    exact i_nat (i_sub (x := 0) (a := 0) rfl hx (by omega) (by omega)) (by omega) (by omega)
theorem size_abs (x : Int32) : sr_L_size x = ag_abs x := by
  unfold sr_L_size ag_abs
  by_cases c : x ≤ 0
  · rw [if_pos c]
    by_cases d : 0 ≤ x
    · have e : x = 0 := by
        rw [Int32.le_iff_toInt_le] at c d
        exact Int32.toInt_inj.mp (by omega)
      rw [if_pos d, e]
      decide
    · rw [if_neg d, Int32.zero_sub]
  · rw [if_neg c, if_pos]
    rw [Int32.le_iff_toInt_le] at c ⊢
    omega
/-- the sea by the day of its fortnight and the phase -/
def seaH (r : Nat) : Int32 := 200 + (20 * (if 0 ≤ nI r - 7 then nI r - 7 else -(nI r - 7)))
def seaT (r p : Nat) : Int32 := if 37 ≤ nI p then seaH r - (((2 * seaH r) * (nI p - 37)) / 37) else (((2 * seaH r) * nI p) / 37) - seaH r
theorem seaT_b : ∀ r, r < 14 → ∀ p, p < 74 → -340 ≤ (seaT r p).toInt ∧ (seaT r p).toInt ≤ 340 := by decide +kernel
theorem tide_T {d : Nat} (h : d < 2 ^ 31) : sr_X5_tideHeight (nI d) = seaH (d % 14) := by
  unfold sr_X5_tideHeight j23_0_X5_tideHeight seaH
  rw [show (14 : Int32) = nI 14 from rfl, pk_rem h (by decide) (by decide)]
theorem sea_T {T : Nat} (h : T < 2 ^ 31) : sr_X5_seaLevel (nI T) = seaT (T / 144 % 14) (T % 74) := by
  unfold sr_X5_seaLevel seaT
  rw [show (74 : Int32) = nI 74 from rfl, pk_rem h (by decide) (by decide), show (144 : Int32) = nI 144 from rfl, pk_div h (by decide) (by decide), tide_T (by omega)]
theorem sea_b {T : Nat} (h : T < 2 ^ 31) : -340 ≤ (sr_X5_seaLevel (nI T)).toInt ∧ (sr_X5_seaLevel (nI T)).toInt ≤ 340 := by
  rw [sea_T h]
  exact seaT_b _ (Nat.mod_lt _ (by decide)) _ (Nat.mod_lt _ (by decide))
theorem seaH_L : ∀ r, r < 14 → 200 + (20 * (if nI r ≤ 7 then 7 - nI r else nI r - 7)) = seaH r := by decide +kernel
theorem sea_L {T : Nat} (h : T < 2 ^ 31) : sr_L_sea (nI T) = sr_X5_seaLevel (nI T) := by
  rw [sea_T h]
  unfold sr_L_sea j31_0_L_sea seaT
  rw [show (144 : Int32) = nI 144 from rfl, pk_div h (by decide) (by decide), show (14 : Int32) = nI 14 from rfl, pk_rem (by omega) (by decide) (by decide), show (74 : Int32) = nI 74 from rfl, pk_rem h (by decide) (by decide), seaH_L _ (Nat.mod_lt _ (by decide))]
/-- the numbers of a state that bounds are asked of: the time, water, silt, gates, turbines, the pump -/
def NB (T : Nat) (f : Nat → Int32) : Prop := f 0 = nI T ∧ (∃ w : Nat, f 1 = nI w ∧ w ≤ 80000) ∧ (∃ s : Nat, f 2 = nI s ∧ s ≤ 20000) ∧ (∃ g : Nat, f 3 = nI g ∧ g ≤ 8) ∧ (∃ t : Nat, f 4 = nI t ∧ t ≤ 6) ∧ (f 5).toInt.natAbs ≤ 500
theorem level_b {T : Nat} {f : Nat → Int32} (h : NB T f) : -400 ≤ (sr_X1_level f).toInt ∧ (sr_X1_level f).toInt ≤ 600 := by
  obtain ⟨-, ⟨w, hw, hw2⟩, ⟨s, hs, hs2⟩, -⟩ := h
  have e : (sr_X1_level f).toInt = (((w + s) / 100 : Nat) : Int) - 400 := by
    unfold sr_X1_level
    rw [hw, hs, nI_add, show (100 : Int32) = nI 100 from rfl, pk_div (by omega) (by decide) (by decide)]
    exact i_sub (b := 400) (nI_toInt (by omega)) rfl (by omega) (by omega)
  rw [e]
  omega
theorem head_b {T : Nat} {f : Nat → Int32} (hT : T < 2 ^ 31) (h : NB T f) : ∃ z : Int, (sr_X1_head f).toInt = z ∧ z.natAbs ≤ 940 := by
  have h1 := level_b h
  have h2 := sea_b hT
  unfold sr_X1_head
  rw [h.1]
  exact ⟨_, i_sub rfl rfl (by omega) (by omega), by omega⟩
/-- gates, turbines, pumps by a head -/
theorem thr_b {T : Nat} {f se : Nat → Int32} {p : Int32} {z : Int} (h : NB T f) (hz : p.toInt = z) (hb : z.natAbs ≤ 940) :
    (∃ a : Int, (xv29_1_X4_foresee f p).toInt = a ∧ a.natAbs ≤ 15040) ∧ (∃ a : Int, (xv53_2_X4_foresee f se p).toInt = a ∧ a.natAbs ≤ 5640) ∧ (∃ a : Int, (xv80_3_X4_foresee f se p).toInt = a ∧ a.natAbs ≤ 500) := by
  obtain ⟨-, -, -, ⟨g, hg, hg2⟩, ⟨t, ht, ht2⟩, hp⟩ := h
  refine ⟨?_, ?_, ?_⟩
  · unfold xv29_1_X4_foresee j29_0_X4_foresee
    split
    · have b1 := i_mulb (g := (g : Int)) (z := z) (n := 8) (m := 940) (by omega) hb
      rw [hg]
      exact ⟨_, i_mul (b := 2) (i_mul (nI_toInt (by omega)) hz (by omega) (by omega)) rfl (by omega) (by omega), by omega⟩
    · exact ⟨0, rfl, by decide⟩
  · unfold xv53_2_X4_foresee j53_0_X4_foresee
    split
    · exact ⟨0, rfl, by decide⟩
    · have b1 := i_mulb (g := (t : Int)) (z := z) (n := 6) (m := 940) (by omega) hb
      rw [ht]
      exact ⟨_, i_mul (nI_toInt (by omega)) hz (by omega) (by omega), by omega⟩
  · unfold xv80_3_X4_foresee j80_0_X4_foresee
    split
    · split
      · exact ⟨0, rfl, by decide⟩
      · exact ⟨_, rfl, hp⟩
    · exact ⟨0, rfl, by decide⟩
theorem mk_b {x y : Int32} {a b : Int} {n m c : Nat} (hx : x.toInt = a) (hy : y.toInt = b) (ha : a.natAbs ≤ n) (hb : b.natAbs ≤ m) (hc : 0 < c) (hc2 : c < 2 ^ 31) (hm : n * m < 2 ^ 31) (hn2 : n < 2 ^ 31) (hm2 : m < 2 ^ 31) : ∃ q : Nat, (ag_abs x * ag_abs y) / nI c = nI q ∧ q ≤ n * m / c := by
  have h1 : a.natAbs * b.natAbs ≤ n * m := Nat.mul_le_mul ha hb
  rw [i_abs hx ha hn2, i_abs hy hb hm2, pk_mul, pk_div (by omega) hc hc2]
  exact ⟨_, rfl, Nat.div_le_div_right h1⟩
theorem made_b {T : Nat} {f se : Nat → Int32} {p : Int32} {z : Int} (h : NB T f) (hz : p.toInt = z) (hb : z.natAbs ≤ 940) : ∃ q : Nat, xv96_4_X4_foresee f se p = nI q ∧ q ≤ 53016 := by
  obtain ⟨-, ⟨a, h1, h2⟩, -⟩ := thr_b (se := se) h hz hb
  exact mk_b (c := 100) h1 hz h2 hb (by decide) (by decide) (by decide) (by decide) (by decide)
theorem used_b {T : Nat} {f se : Nat → Int32} {p : Int32} {z : Int} (h : NB T f) (hz : p.toInt = z) (hb : z.natAbs ≤ 940) : ∃ q : Nat, xv115_5_X4_foresee f se p = nI q ∧ q ≤ 4800 := by
  obtain ⟨-, -, ⟨a, h1, h2⟩⟩ := thr_b (se := se) h hz hb
  unfold xv115_5_X4_foresee
  have h3 : a.natAbs * (20 + z.natAbs) ≤ 500 * 960 := Nat.mul_le_mul h2 (by omega)
  rw [i_abs h1 h2 (by decide), i_abs hz hb (by decide), show (20 : Int32) = nI 20 from rfl, nI_add, pk_mul, show (100 : Int32) = nI 100 from rfl, pk_div (by omega) (by decide) (by decide)]
  exact ⟨_, rfl, by omega⟩
/-- what flows in all together: as the class cuts it and as the model does -/
theorem flow_eq {w : Nat} {x y : Int32} {a : Int} (hw : w ≤ 80000) (hy : y = nI w) (hx : x.toInt = a) (ha : a.natAbs ≤ 21180) :
    ∃ b : Int, (ag_max (-y) (ag_min (80000 - y) x)).toInt = b ∧ -(w : Int) ≤ b ∧ b ≤ 80000 - w ∧ (if y + x ≤ 80000 then if 0 ≤ y + x then x else -y else 80000 - y) = ag_max (-y) (ag_min (80000 - y) x) := by
  subst hy
  have e0 := nI_toInt (n := w) (by omega)
  have e1 : (-(nI w)).toInt = -(w : Int) := i_neg e0 (by omega) (by omega)
  have e2 : (80000 - nI w).toInt = 80000 - (w : Int) := i_sub (a := 80000) rfl e0 (by omega) (by omega)
  have e3 : (nI w + x).toInt = (w : Int) + a := i_add e0 hx (by omega) (by omega)
  have e4 : (80000 : Int32).toInt = 80000 := rfl
  have e5 : (0 : Int32).toInt = 0 := rfl
  unfold ag_max ag_min
  simp only [Int32.lt_iff_toInt_lt, Int32.le_iff_toInt_le, e3, e4, e5]
  by_cases c1 : (w : Int) + a ≤ 80000
  · rw [if_pos c1]
    by_cases c2 : 0 ≤ (w : Int) + a
    · rw [if_pos c2]
      by_cases c3 : x.toInt < (80000 - nI w).toInt
      · rw [if_pos c3]
        by_cases c4 : (-(nI w)).toInt < x.toInt
        · rw [if_pos c4]; exact ⟨a, hx, by omega, by omega, rfl⟩
        · rw [if_neg c4]; exact ⟨_, e1, by omega, by omega, i_eq hx e1 (by omega)⟩
      · rw [if_neg c3]
        by_cases c4 : (-(nI w)).toInt < (80000 - nI w).toInt
        · rw [if_pos c4]; exact ⟨_, e2, by omega, by omega, i_eq hx e2 (by omega)⟩
        · omega
    · rw [if_neg c2]
      by_cases c3 : x.toInt < (80000 - nI w).toInt
      · rw [if_pos c3]
        by_cases c4 : (-(nI w)).toInt < x.toInt
        · omega
        · rw [if_neg c4]; exact ⟨_, e1, by omega, by omega, rfl⟩
      · omega
  · rw [if_neg c1]
    by_cases c3 : x.toInt < (80000 - nI w).toInt
    · omega
    · rw [if_neg c3]
      by_cases c4 : (-(nI w)).toInt < (80000 - nI w).toInt
      · rw [if_pos c4]; exact ⟨_, e2, by omega, by omega, rfl⟩
      · omega
/-- what flows in all together, as the law cuts it -/
theorem flow_L {w : Nat} {x y : Int32} {a : Int} (hw : w ≤ 80000) (hy : y = nI w) (hx : x.toInt = a) (ha : a.natAbs ≤ 21180) :
    (if y + x ≤ 80000 then if 0 ≤ y + x then y + x else 0 else 80000) - y = ag_max (-y) (ag_min (80000 - y) x) := by
  obtain ⟨b, -, -, -, e⟩ := flow_eq hw hy hx ha
  rw [← e]
  split
  · split
    · rw [Int32.add_comm, Int32.add_sub_cancel]
    · rw [Int32.zero_sub]
  · rfl
/-- silt that comes or goes: as the class cuts it and as the model does; the silt stays in its bounds -/
theorem silt_b {s : Nat} {y fl k : Int32} {b : Int} (hs : s ≤ 20000) (hy : y = nI s) (hf : fl.toInt = b) (hb : b.natAbs ≤ 80000) :
    (∃ q : Nat, y + (if fl ≤ 0 then if -k < fl then 0 else -(ag_min ((-fl) / 20) y) else ag_min (fl / 50) (20000 - y)) = nI q ∧ q ≤ 20000) ∧
    (if fl ≤ 0 then if -k < fl then (0 : Int32) else if y ≤ (-fl) / 20 then -y else -((-fl) / 20) else if 20000 - y ≤ fl / 50 then 20000 - y else fl / 50) = (if fl ≤ 0 then if -k < fl then 0 else -(ag_min ((-fl) / 20) y) else ag_min (fl / 50) (20000 - y)) := by
  subst hy
  have e0 := nI_toInt (n := s) (by omega)
  have le : ∀ x y : Int32, ¬ y < x → ¬ x = y → ¬ y ≤ x := fun x y h1 h2 h3 => by
    rw [Int32.lt_iff_toInt_lt] at h1; rw [Int32.le_iff_toInt_le] at h3
    exact h2 (Int32.toInt_inj.mp (by omega))
  have mn : ∀ x y : Int32, ag_min x y = if y ≤ x then y else x := fun x y => by
    unfold ag_min
    by_cases c : y < x
    · rw [if_pos c, if_pos (by rw [Int32.lt_iff_toInt_lt] at c; rw [Int32.le_iff_toInt_le]; omega)]
    · rw [if_neg c]
      by_cases c2 : x = y
      · rw [c2]; split <;> rfl
      · rw [if_neg (le x y c c2)]
  rw [mn, mn]
  refine ⟨?_, ?_⟩
  · split
    · rename_i c
      rw [Int32.le_iff_toInt_le, hf, show (0 : Int32).toInt = 0 from rfl] at c
      split
      · exact ⟨s, Int32.add_zero _, hs⟩
      · have q1 : -fl = nI b.natAbs := i_nat (i_neg hf (by omega) (by omega)) (by omega) (by omega)
        rw [q1, show (20 : Int32) = nI 20 from rfl, pk_div (by omega) (by decide) (by decide)]
        split
        · exact ⟨0, i_nat (i_add e0 (i_neg e0 (by omega) (by omega)) (by omega) (by omega)) (by omega) (by omega), by omega⟩
        · rename_i c3
          rw [nI_leI (by omega) (by omega)] at c3
          have e1 := nI_toInt (n := b.natAbs / 20) (by omega)
          exact ⟨s - b.natAbs / 20, i_nat (i_add e0 (i_neg e1 (by omega) (by omega)) (by omega) (by omega)) (by omega) (by omega), by omega⟩
    · rename_i c
      rw [Int32.le_iff_toInt_le, hf, show (0 : Int32).toInt = 0 from rfl] at c
      have q1 : fl = nI b.natAbs := i_nat hf (by omega) (by omega)
      rw [q1, show (50 : Int32) = nI 50 from rfl, pk_div (by omega) (by decide) (by decide), show (20000 : Int32) = nI 20000 from rfl, pk_sub hs]
      split
      · exact ⟨20000, by rw [nI_add]; congr 1; omega, by omega⟩
      · rename_i c3
        rw [nI_leI (by omega) (by omega)] at c3
        exact ⟨s + b.natAbs / 50, nI_add _ _, by omega⟩
  · split
    · split
      · rfl
      · split <;> rfl
    · rfl
/-- silt, as the law cuts it -/
theorem silt_L {s : Nat} {y fl k : Int32} {b : Int} (hs : s ≤ 20000) (hy : y = nI s) (hf : fl.toInt = b) (hb : b.natAbs ≤ 80000) :
    (if fl ≤ 0 then if fl ≤ -k then -(if (ag_abs fl) / 20 ≤ y then (ag_abs fl) / 20 else y) else 0 else if y + fl / 50 ≤ 20000 then fl / 50 else 20000 - y) = (if fl ≤ 0 then if -k < fl then 0 else -(ag_min ((-fl) / 20) y) else ag_min (fl / 50) (20000 - y)) := by
  subst hy
  have mn : ∀ x y : Int32, ag_min x y = if x ≤ y then x else y := fun x y => by
    unfold ag_min
    by_cases c : y < x
    · rw [if_pos c, if_neg (by rw [Int32.lt_iff_toInt_lt] at c; rw [Int32.le_iff_toInt_le]; omega)]
    · rw [if_neg c, if_pos (by rw [Int32.lt_iff_toInt_lt] at c; rw [Int32.le_iff_toInt_le]; omega)]
  by_cases c : fl ≤ 0
  · rw [if_pos c, if_pos c]
    have c1 := c
    rw [Int32.le_iff_toInt_le, hf, show (0 : Int32).toInt = 0 from rfl] at c1
    have q1 : -fl = nI b.natAbs := i_nat (i_neg hf (by omega) (by omega)) (by omega) (by omega)
    rw [i_abs hf (n := 80000) hb (by decide), q1, mn]
    by_cases d : fl ≤ -k
    · have d2 : ¬ -k < fl := by rw [Int32.le_iff_toInt_le] at d; rw [Int32.lt_iff_toInt_lt]; omega
      rw [if_pos d, if_neg d2]
    · have d2 : -k < fl := by rw [Int32.le_iff_toInt_le] at d; rw [Int32.lt_iff_toInt_lt]; omega
      rw [if_neg d, if_pos d2]
  · rw [if_neg c, if_neg c, mn]
    have c1 := c
    rw [Int32.le_iff_toInt_le, hf, show (0 : Int32).toInt = 0 from rfl] at c1
    have q1 : fl = nI b.natAbs := i_nat hf (by omega) (by omega)
    rw [q1, show (50 : Int32) = nI 50 from rfl, pk_div (by omega) (by decide) (by decide), show (20000 : Int32) = nI 20000 from rfl, pk_sub hs, nI_add]
    by_cases d : s + b.natAbs / 50 ≤ 20000
    · rw [if_pos ((nI_leI (by omega) (by omega)).mpr d), if_pos ((nI_leI (by omega) (by omega)).mpr (by omega))]
    · rw [if_neg (fun h => d ((nI_leI (by omega) (by omega)).mp h)), if_neg (fun h => d (by have := (nI_leI (by omega) (by omega)).mp h; omega))]
