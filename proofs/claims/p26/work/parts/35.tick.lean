/-! a tick: what stands before it alike in the class and in the law stands behind it alike -/
theorem upd_ne {f : Nat → Int32} {k j : Nat} {v : Int32} (h : ¬ j = k) : upd f k v j = f j := by unfold upd; rw [if_neg h]
theorem upd_eq {f : Nat → Int32} {k : Nat} {v : Int32} : upd f k v k = v := by unfold upd; rw [if_pos rfl]
def nd (T : Nat) : Nat := (T + 143) / 144
def nr (T : Nat) : Nat := if nd T ≤ 10 then nd T else 10
theorem nr_le (T : Nat) : nr T ≤ 10 ∧ nr T ≤ nd T := by unfold nr; split <;> omega
theorem rs_nI {d : Nat} (h : d < 2 ^ 31) : rs (nI d) = d % 10 * 6 := by
  unfold rs sr_X5_recordStart sr_J9_floorMod_7cf53
  rw [show (10 : Int32) = nI 10 from rfl, if_pos ((ag_xor_sign (nI d) (by decide)).mpr (nI_pos' h)), pk_rem h (by decide) (by decide), show (6 : Int32) = nI 6 from rfl, pk_mul, nI_clamp (by omega)]
/-- what a day's record is when it is begun -/
def bg (re : Nat → Int32) (L : Int32) (T : Nat) : Nat → Int32 := if T % 144 = 0 then sw3_X1_beginRecord re L (T / 144 % 10 * 6) else re
theorem bg_v (re : Nat → Int32) (L : Int32) (q : Nat) : sw3_X1_beginRecord re L q (q + 0) = 0 ∧ sw3_X1_beginRecord re L q (q + 1) = 0 ∧ sw3_X1_beginRecord re L q (q + 2) = L ∧ sw3_X1_beginRecord re L q (q + 3) = L ∧ sw3_X1_beginRecord re L q (q + 4) = 0 ∧ sw3_X1_beginRecord re L q (q + 5) = 0 ∧ (∀ k, k < q ∨ q + 6 ≤ k → sw3_X1_beginRecord re L q k = re k) := by
  unfold sw3_X1_beginRecord
  refine ⟨?_, ?_, ?_, ?_, ?_, ?_, fun k hk => ?_⟩
  · rw [upd_ne (by omega), upd_ne (by omega), upd_ne (by omega), upd_ne (by omega), upd_ne (by omega), upd_eq]
  · rw [upd_ne (by omega), upd_ne (by omega), upd_ne (by omega), upd_ne (by omega), upd_eq]
  · rw [upd_ne (by omega), upd_ne (by omega), upd_ne (by omega), upd_eq]
  · rw [upd_ne (by omega), upd_ne (by omega), upd_eq]
  · rw [upd_ne (by omega), upd_eq]
  · rw [upd_eq]
  · rw [upd_ne (by omega), upd_ne (by omega), upd_ne (by omega), upd_ne (by omega), upd_ne (by omega), upd_ne (by omega)]
theorem six {P : Nat → Prop} (h0 : P 0) (h1 : P 1) (h2 : P 2) (h3 : P 3) (h4 : P 4) (h5 : P 5) : ∀ j, j < 6 → P j := fun j hj => by
  rcases j with _ | _ | _ | _ | _ | _ | j
  · exact h0
  · exact h1
  · exact h2
  · exact h3
  · exact h4
  · exact h5
  · omega
theorem mx0 (x : Int32) : ag_max 0 x = if x ≤ 0 then 0 else x := by
  unfold ag_max
  by_cases c : x ≤ 0
  · rw [if_pos c, if_neg (Int32.not_lt.mpr c)]
  · rw [if_neg c, if_pos (Int32.not_le.mp c)]
theorem mx0n {x : Int32} (h : x.toInt.natAbs ≤ 80000) : ag_max 0 (-x) = if 0 ≤ x then 0 else -x := by
  have e := i_neg (x := x) rfl (by omega) (by omega)
  rw [mx0]
  by_cases c : 0 ≤ x
  · rw [if_pos c, if_pos (by rw [Int32.le_iff_toInt_le] at c ⊢; rw [e]; have e0 : (0 : Int32).toInt = 0 := rfl; omega)]
  · rw [if_neg c, if_neg (by rw [Int32.le_iff_toInt_le] at c ⊢; rw [e]; have e0 : (0 : Int32).toInt = 0 := rfl; omega)]
/-- the class's record of the day, behind a tick -/
def en (W kf : Nat → Int32) (L : Int32) (q : Nat) : Nat → Int32 := upd (upd (upd (upd (upd (upd W (q + 0) (W (q + 0) + kf 4)) (q + 1) (W (q + 1) + kf 5)) (q + 2) (ag_max (W (q + 2)) L)) (q + 3) (ag_min (W (q + 3)) L)) (q + 4) (W (q + 4) + ag_max 0 (kf 3))) (q + 5) (W (q + 5) + ag_max 0 (-(kf 3)))
theorem en_v (W kf : Nat → Int32) (L : Int32) (q : Nat) : en W kf L q (q + 0) = W (q + 0) + kf 4 ∧ en W kf L q (q + 1) = W (q + 1) + kf 5 ∧ en W kf L q (q + 2) = ag_max (W (q + 2)) L ∧ en W kf L q (q + 3) = ag_min (W (q + 3)) L ∧ en W kf L q (q + 4) = W (q + 4) + ag_max 0 (kf 3) ∧ en W kf L q (q + 5) = W (q + 5) + ag_max 0 (-(kf 3)) ∧ (∀ k, k < q ∨ q + 6 ≤ k → en W kf L q k = W k) := by
  unfold en
  refine ⟨?_, ?_, ?_, ?_, ?_, ?_, fun k hk => ?_⟩
  · rw [upd_ne (by omega), upd_ne (by omega), upd_ne (by omega), upd_ne (by omega), upd_ne (by omega), upd_eq]
  · rw [upd_ne (by omega), upd_ne (by omega), upd_ne (by omega), upd_ne (by omega), upd_eq]
  · rw [upd_ne (by omega), upd_ne (by omega), upd_ne (by omega), upd_eq]
  · rw [upd_ne (by omega), upd_ne (by omega), upd_eq]
  · rw [upd_ne (by omega), upd_eq]
  · rw [upd_eq]
  · rw [upd_ne (by omega), upd_ne (by omega), upd_ne (by omega), upd_ne (by omega), upd_ne (by omega), upd_ne (by omega)]
theorem en_form {T : Nat} (hT : T < 2 ^ 31) {f re kf : Nat → Int32} (h0 : f 0 = nI T) : sw3_X1_enterRecord f re kf = en (bg re (sr_X1_level f) T) kf (sr_X1_level f) (T / 144 % 10 * 6) := by
  have e : rs (f 0 / 144) = T / 144 % 10 * 6 := by rw [h0, show (144 : Int32) = nI 144 from rfl, pk_div hT (by decide) (by decide), rs_nI (by omega)]
  have e2 : w34_3_X1_enterRecord f re = bg re (sr_X1_level f) T := by
    unfold w34_3_X1_enterRecord gv31_1_X1_enterRecord bg
    rw [e, h0, show (144 : Int32) = nI 144 from rfl, pk_rem hT (by decide) (by decide)]
    by_cases c : T % 144 = 0
    · rw [if_pos c, if_pos (by rw [c]; rfl)]
    · rw [if_neg c, if_neg (nI_ne0 (by omega) (by omega))]
  unfold sw3_X1_enterRecord xv48_2_X1_enterRecord xv63_3_X1_enterRecord xv83_4_X1_enterRecord xv103_5_X1_enterRecord xv122_6_X1_enterRecord xv142_7_X1_enterRecord en
  rw [e, e2]
/-- the state of the class and the law's own rows, alike at the time T -/
def PR (T : Nat) (f se to re g r d : Nat → Int32) : Prop :=
  NB T f ∧ (∀ k, k < 8 → g k = f k) ∧ (∀ k, k < 3 → g (8 + k) = se k) ∧ (∀ k, k < 7 → g (11 + k) = to k) ∧
  (∀ D, D < nd T → nd T ≤ D + 10 → d (D % 10) = nI D) ∧ (∀ j, nd T ≤ j → j < 10 → d j = -1) ∧
  (∀ D, D < nd T → nd T ≤ D + 10 → ∀ j, j < 6 → r (D % 10 * 6 + j) = re (D % 10 * 6 + j)) ∧
  (∀ D, D < nd T → nd T ≤ D + 10 → re (D % 10 * 6 + 3) ≤ re (D % 10 * 6 + 2)) ∧
  f 1 = 40000 + to 2 - to 3 ∧ f 2 = to 5 - to 6 - to 4
def PX (T : Nat) (se : Nat → Int32) (x : ltu) (g r d : Nat → Int32) : Prop := PR T x.1 se x.2.1 x.2.2.1 g r d
theorem PX_0 {T : Nat} {se : Nat → Int32} {x : ltu} {g r d : Nat → Int32} (h : PX T se x g r d) : g 0 = nI T := (h.2.1 0 (by omega)).trans h.1.1
/-! the law's tick, by what it weighs -/
def g5 (g K : Nat → Int32) : Nat → Int32 := upd (upd (upd (upd (upd g 0 (g 0 + 1)) 1 (g 1 + K 3)) 2 (g 2 + K 6)) 11 (g 11 + K 4)) 12 (g 12 + K 5)
def g6 (g K : Nat → Int32) : Nat → Int32 := upd (g5 g K) (ix1 (K 3)) (g5 g K (ix1 (K 3)) + sr_L_size (K 3))
def tgF (g K : Nat → Int32) : Nat → Int32 := upd (g6 g K) (ix2 (K 6)) (g6 g K (ix2 (K 6)) + sr_L_size (K 6))
theorem tG_form (gi wi : Nat → Int32) : tG gi wi = tgF gi (sw1_L_weigh gi wi) := by
  unfold tG xv143_8_L_run xv115_7_L_run xv89_6_L_run xv78_5_L_run xv67_4_L_run xv56_3_L_run xv46_2_L_run gv18_1_L_run tgF g6 g5
  rfl
def r1F (r K : Nat → Int32) (o : Int32) (q : Nat) : Nat → Int32 := upd r q (K 4 + (if o = 0 then r q else 0))
def trF (r K : Nat → Int32) (o L : Int32) (q : Nat) : Nat → Int32 :=
  upd (upd (upd (upd (upd (r1F r K o q) (q + 1) (K 5 + (if o = 0 then r1F r K o q (q + 1) else 0))) (q + 2) (if o = 0 then if L ≤ r1F r K o q (q + 2) then r1F r K o q (q + 2) else L else L))
    (q + 3) (if o = 0 then if r1F r K o q (q + 3) ≤ L then r1F r K o q (q + 3) else L else L)) (q + 4) ((if K 3 ≤ 0 then 0 else K 3) + (if o = 0 then r1F r K o q (q + 4) else 0)))
    (q + 5) ((if 0 ≤ K 3 then 0 else -(K 3)) + (if o = 0 then r1F r K o q (q + 5) else 0))
theorem tR_form (t : Nat) (gi ri di wi : Nat → Int32) : tR t gi ri di wi = trF ri (sw1_L_weigh gi wi) (j161_0_L_run t di) (sr_L_level (tG gi wi)) (t / 144 % 10 * 6) := by
  unfold tR xv368_15_L_run xv330_14_L_run xv293_13_L_run xv256_12_L_run xv219_11_L_run xv193_10_L_run j367_0_L_run j352_0_L_run j329_0_L_run j314_0_L_run j293_0_L_run j256_0_L_run j218_0_L_run j192_0_L_run trF r1F gv18_1_L_run tG
  rfl
theorem g5_v (g K : Nat → Int32) : g5 g K 0 = g 0 + 1 ∧ g5 g K 1 = g 1 + K 3 ∧ g5 g K 2 = g 2 + K 6 ∧ g5 g K 11 = g 11 + K 4 ∧ g5 g K 12 = g 12 + K 5 ∧ (∀ k, 3 ≤ k → k < 11 ∨ 13 ≤ k → g5 g K k = g k) := by
  unfold g5
  refine ⟨rfl, rfl, rfl, rfl, rfl, fun k h1 h2 => ?_⟩
  rw [upd_ne (by omega), upd_ne (by omega), upd_ne (by omega), upd_ne (by omega), upd_ne (by omega)]
theorem ix1_v (x : Int32) : (x ≤ 0 ∧ ix1 x = 14) ∨ (¬ x ≤ 0 ∧ ix1 x = 13) := by
  unfold ix1
  by_cases c : x ≤ 0
  · exact Or.inl ⟨c, if_pos c⟩
  · exact Or.inr ⟨c, if_neg c⟩
theorem ix2_v (x : Int32) : (x ≤ 0 ∧ ix2 x = 17) ∨ (¬ x ≤ 0 ∧ ix2 x = 16) := by
  unfold ix2
  by_cases c : x ≤ 0
  · exact Or.inl ⟨c, if_pos c⟩
  · exact Or.inr ⟨c, if_neg c⟩
theorem sz_p {x : Int32} (h : ¬ x ≤ 0) : sr_L_size x = x ∧ (if x ≤ 0 then 0 else x) = x ∧ (if 0 ≤ x then 0 else -x) = 0 := by
  have h2 : 0 ≤ x := by rw [Int32.le_iff_toInt_le] at h ⊢; omega
  unfold sr_L_size
  exact ⟨if_neg h, if_neg h, if_pos h2⟩
theorem sz_n {x : Int32} (h : x ≤ 0) : sr_L_size x = (if 0 ≤ x then 0 else -x) ∧ (if x ≤ 0 then 0 else x) = 0 := by
  unfold sr_L_size
  refine ⟨?_, if_pos h⟩
  rw [if_pos h]
  by_cases c : 0 ≤ x
  · have e : x = 0 := by
      rw [Int32.le_iff_toInt_le] at h c
      exact Int32.toInt_inj.mp (by omega)
    rw [if_pos c, e]
    decide
  · rw [if_neg c]
theorem tgF_v (g K : Nat → Int32) : tgF g K 0 = g 0 + 1 ∧ tgF g K 1 = g 1 + K 3 ∧ tgF g K 2 = g 2 + K 6 ∧ (∀ k, 3 ≤ k → k < 11 → tgF g K k = g k) ∧ tgF g K 11 = g 11 + K 4 ∧ tgF g K 12 = g 12 + K 5 ∧
    tgF g K 13 = g 13 + (if K 3 ≤ 0 then 0 else K 3) ∧ tgF g K 14 = g 14 + (if 0 ≤ K 3 then 0 else -(K 3)) ∧ tgF g K 15 = g 15 ∧ tgF g K 16 = g 16 + (if K 6 ≤ 0 then 0 else K 6) ∧ tgF g K 17 = g 17 + (if 0 ≤ K 6 then 0 else -(K 6)) := by
  obtain ⟨a0, a1, a2, a3, a4, a5⟩ := g5_v g K
  unfold tgF g6
  generalize g5 g K = G at *
  have b13 : G 13 = g 13 := a5 13 (by omega) (by omega)
  have b14 : G 14 = g 14 := a5 14 (by omega) (by omega)
  have b15 : G 15 = g 15 := a5 15 (by omega) (by omega)
  have b16 : G 16 = g 16 := a5 16 (by omega) (by omega)
  have b17 : G 17 = g 17 := a5 17 (by omega) (by omega)
  have p : ∀ i j k : Nat, ∀ u v : Int32, ¬ k = i → ¬ k = j → upd (upd G i u) j v k = G k := fun i j k u v h1 h2 => by rw [upd_ne h2, upd_ne h1]
  rcases ix1_v (K 3) with ⟨c, e⟩ | ⟨c, e⟩
  · obtain ⟨s1, s2⟩ := sz_n c
    rw [e]
    rcases ix2_v (K 6) with ⟨c', e'⟩ | ⟨c', e'⟩
    · obtain ⟨t1, t2⟩ := sz_n c'
      rw [e', s1, t1, s2, t2]
      refine ⟨(p _ _ _ _ _ (by omega) (by omega)).trans a0, (p _ _ _ _ _ (by omega) (by omega)).trans a1, (p _ _ _ _ _ (by omega) (by omega)).trans a2, fun k h1 h2 => (p _ _ _ _ _ (by omega) (by omega)).trans (a5 k h1 (by omega)), (p _ _ _ _ _ (by omega) (by omega)).trans a3, (p _ _ _ _ _ (by omega) (by omega)).trans a4, ?_, ?_, (p _ _ _ _ _ (by omega) (by omega)).trans b15, ?_, ?_⟩
      · rw [p _ _ _ _ _ (by omega) (by omega), b13, Int32.add_zero]
      · rw [upd_ne (by omega), upd_eq, b14]
      · rw [p _ _ _ _ _ (by omega) (by omega), b16, Int32.add_zero]
      · rw [upd_eq, upd_ne (by omega), b17]
    · obtain ⟨t1, t2, t3⟩ := sz_p c'
      rw [e', s1, t1, s2, t2, t3]
      refine ⟨(p _ _ _ _ _ (by omega) (by omega)).trans a0, (p _ _ _ _ _ (by omega) (by omega)).trans a1, (p _ _ _ _ _ (by omega) (by omega)).trans a2, fun k h1 h2 => (p _ _ _ _ _ (by omega) (by omega)).trans (a5 k h1 (by omega)), (p _ _ _ _ _ (by omega) (by omega)).trans a3, (p _ _ _ _ _ (by omega) (by omega)).trans a4, ?_, ?_, (p _ _ _ _ _ (by omega) (by omega)).trans b15, ?_, ?_⟩
      · rw [p _ _ _ _ _ (by omega) (by omega), b13, Int32.add_zero]
      · rw [upd_ne (by omega), upd_eq, b14]
      · rw [upd_eq, upd_ne (by omega), b16]
      · rw [p _ _ _ _ _ (by omega) (by omega), b17, Int32.add_zero]
  · obtain ⟨s1, s2, s3⟩ := sz_p c
    rw [e]
    rcases ix2_v (K 6) with ⟨c', e'⟩ | ⟨c', e'⟩
    · obtain ⟨t1, t2⟩ := sz_n c'
      rw [e', s1, t1, s2, t2, s3]
      refine ⟨(p _ _ _ _ _ (by omega) (by omega)).trans a0, (p _ _ _ _ _ (by omega) (by omega)).trans a1, (p _ _ _ _ _ (by omega) (by omega)).trans a2, fun k h1 h2 => (p _ _ _ _ _ (by omega) (by omega)).trans (a5 k h1 (by omega)), (p _ _ _ _ _ (by omega) (by omega)).trans a3, (p _ _ _ _ _ (by omega) (by omega)).trans a4, ?_, ?_, (p _ _ _ _ _ (by omega) (by omega)).trans b15, ?_, ?_⟩
      · rw [upd_ne (by omega), upd_eq, b13]
      · rw [p _ _ _ _ _ (by omega) (by omega), b14, Int32.add_zero]
      · rw [p _ _ _ _ _ (by omega) (by omega), b16, Int32.add_zero]
      · rw [upd_eq, upd_ne (by omega), b17]
    · obtain ⟨t1, t2, t3⟩ := sz_p c'
      rw [e', s1, t1, s2, t2, s3, t3]
      refine ⟨(p _ _ _ _ _ (by omega) (by omega)).trans a0, (p _ _ _ _ _ (by omega) (by omega)).trans a1, (p _ _ _ _ _ (by omega) (by omega)).trans a2, fun k h1 h2 => (p _ _ _ _ _ (by omega) (by omega)).trans (a5 k h1 (by omega)), (p _ _ _ _ _ (by omega) (by omega)).trans a3, (p _ _ _ _ _ (by omega) (by omega)).trans a4, ?_, ?_, (p _ _ _ _ _ (by omega) (by omega)).trans b15, ?_, ?_⟩
      · rw [upd_ne (by omega), upd_eq, b13]
      · rw [p _ _ _ _ _ (by omega) (by omega), b14, Int32.add_zero]
      · rw [upd_eq, upd_ne (by omega), b16]
      · rw [p _ _ _ _ _ (by omega) (by omega), b17, Int32.add_zero]
theorem r1F_v (r K : Nat → Int32) (o : Int32) (q : Nat) : r1F r K o q q = K 4 + (if o = 0 then r q else 0) ∧ (∀ k, ¬ k = q → r1F r K o q k = r k) := by
  unfold r1F
  exact ⟨upd_eq, fun k hk => upd_ne hk⟩
theorem trF_v (r K : Nat → Int32) (o L : Int32) (q : Nat) : trF r K o L q (q + 0) = K 4 + (if o = 0 then r (q + 0) else 0) ∧ trF r K o L q (q + 1) = K 5 + (if o = 0 then r (q + 1) else 0) ∧ trF r K o L q (q + 2) = (if o = 0 then if L ≤ r (q + 2) then r (q + 2) else L else L) ∧ trF r K o L q (q + 3) = (if o = 0 then if r (q + 3) ≤ L then r (q + 3) else L else L) ∧
    trF r K o L q (q + 4) = (if K 3 ≤ 0 then 0 else K 3) + (if o = 0 then r (q + 4) else 0) ∧ trF r K o L q (q + 5) = (if 0 ≤ K 3 then 0 else -(K 3)) + (if o = 0 then r (q + 5) else 0) ∧ (∀ k, k < q ∨ q + 6 ≤ k → trF r K o L q k = r k) := by
  obtain ⟨a0, a1⟩ := r1F_v r K o q
  unfold trF
  generalize r1F r K o q = R1 at *
  rw [a1 (q + 1) (by omega), a1 (q + 2) (by omega), a1 (q + 3) (by omega), a1 (q + 4) (by omega), a1 (q + 5) (by omega)]
  refine ⟨?_, ?_, ?_, ?_, ?_, ?_, fun k hk => ?_⟩
  · rw [upd_ne (by omega), upd_ne (by omega), upd_ne (by omega), upd_ne (by omega), upd_ne (by omega)]
    exact a0
  · rw [upd_ne (by omega), upd_ne (by omega), upd_ne (by omega), upd_ne (by omega), upd_eq]
  · rw [upd_ne (by omega), upd_ne (by omega), upd_ne (by omega), upd_eq]
  · rw [upd_ne (by omega), upd_ne (by omega), upd_eq]
  · rw [upd_ne (by omega), upd_eq]
  · rw [upd_eq]
  · rw [upd_ne (by omega), upd_ne (by omega), upd_ne (by omega), upd_ne (by omega), upd_ne (by omega), a1 k (by omega)]
/-- the law's row of the day is begun where the class's is -/
theorem oth {T : Nat} {d : Nat → Int32} (hT : T < 20000) (h1 : ∀ D, D < nd T → nd T ≤ D + 10 → d (D % 10) = nI D) (h2 : ∀ j, nd T ≤ j → j < 10 → d j = -1) : j161_0_L_run T d = 0 ↔ ¬ T % 144 = 0 := by
  unfold j161_0_L_run
  by_cases c : T % 144 = 0
  · have cd : nd T = T / 144 := by unfold nd; omega
    rw [if_neg]
    · exact ⟨fun h => absurd h (by decide), fun h => absurd c h⟩
    · by_cases c2 : T / 144 < 10
      · rw [show T / 144 % 10 = T / 144 by omega, h2 _ (by omega) c2]
        intro e
        have e2 := congrArg Int32.toInt e
        rw [nI_toInt (by omega), show (-1 : Int32).toInt = -1 from rfl] at e2
        omega
      · rw [show T / 144 % 10 = (T / 144 - 10) % 10 by omega, h1 _ (by omega) (by omega)]
        intro e
        have := (nI_eq (by omega) (by omega)).mp e
        omega
  · have cd : nd T = T / 144 + 1 := by unfold nd; omega
    rw [if_pos (h1 _ (by omega) (by omega))]
    exact ⟨fun _ => c, fun _ => rfl⟩
theorem mx_L (x y : Int32) : (if y ≤ x then x else y) = ag_max x y := by
  unfold ag_max
  by_cases c : y ≤ x
  · rw [if_pos c, if_neg (Int32.not_lt.mpr c)]
  · rw [if_neg c, if_pos (Int32.not_le.mp c)]
theorem mn_L (x y : Int32) : (if x ≤ y then x else y) = ag_min x y := by
  unfold ag_min
  by_cases c : x ≤ y
  · rw [if_pos c, if_neg (Int32.not_lt.mpr c)]
  · rw [if_neg c, if_pos (Int32.not_le.mp c)]
theorem mx_s (x : Int32) : ag_max x x = x := by unfold ag_max; split <;> rfl
theorem mn_s (x : Int32) : ag_min x x = x := by unfold ag_min; split <;> rfl
theorem mnx (x y L : Int32) : ag_min x L ≤ ag_max y L := by
  unfold ag_min ag_max
  by_cases c : L < x
  · rw [if_pos c]
    by_cases c2 : y < L
    · rw [if_pos c2]; exact Int32.le_refl L
    · rw [if_neg c2]; exact Int32.not_lt.mp c2
  · rw [if_neg c]
    by_cases c2 : y < L
    · rw [if_pos c2]; exact Int32.not_lt.mp c
    · rw [if_neg c2]; exact Int32.le_trans (Int32.not_lt.mp c) (Int32.not_lt.mp c2)
/-- what adds up still adds up -/
theorem add_u {w a b x : Int32} (h : w = 40000 + a - b) : w + x = 40000 + (a + (if x ≤ 0 then 0 else x)) - (b + (if 0 ≤ x then 0 else -x)) := by
  subst h
  by_cases c : x ≤ 0
  · rw [if_pos c]
    by_cases c2 : 0 ≤ x
    · have e : x = 0 := by
        rw [Int32.le_iff_toInt_le] at c c2
        exact Int32.toInt_inj.mp (by omega)
      rw [if_pos c2, e, Int32.add_zero, Int32.add_zero, Int32.add_zero]
    · rw [if_neg c2]; grind
  · rw [if_neg c, (sz_p c).2.2]; grind
theorem add_s {w a b e x : Int32} (h : w = a - b - e) : w + x = (a + (if x ≤ 0 then 0 else x)) - (b + (if 0 ≤ x then 0 else -x)) - e := by
  subst h
  by_cases c : x ≤ 0
  · rw [if_pos c]
    by_cases c2 : 0 ≤ x
    · have e : x = 0 := by
        rw [Int32.le_iff_toInt_le] at c c2
        exact Int32.toInt_inj.mp (by omega)
      rw [if_pos c2, e, Int32.add_zero, Int32.add_zero, Int32.add_zero]
    · rw [if_neg c2]; grind
  · rw [if_neg c, (sz_p c).2.2]; grind
set_option maxHeartbeats 4000000 in
theorem tickL {T : Nat} {se : Nat → Int32} {x : ltu} {gi ri di wi : Nat → Int32} (hT : T < 20000) (h : PX T se x gi ri di) : PX (T + 1) se (lpS se x) (tG gi wi) (tR T gi ri di wi) (tD T di) := by
  obtain ⟨f, to, re, kf⟩ := x
  unfold PX at h
  dsimp only at h
  obtain ⟨hN, h1, h2, h3, h4, h5, h6, h7, h8, h9⟩ := h
  obtain ⟨hw, ⟨nw, v1, v1b⟩, ⟨ns, v2, v2b⟩, v5, v6⟩ := wg_rel (kf := kf) (uf := wi) (by omega) hN h1 h2
  have ho := oth hT h4 h5
  rw [tR_form, tG_form]
  unfold PX lpS lpK tD xv171_9_L_run
  dsimp only
  generalize sw1_L_weigh gi wi = g at hw ⊢
  generalize sw0_X4_foresee kf f se (sr_X1_head f) = K at hw v1 v2 v5 v6 ⊢
  have w3 : g 3 = K 3 := hw 3 (by omega)
  have w4 : g 4 = K 4 := hw 4 (by omega)
  have w5 : g 5 = K 5 := hw 5 (by omega)
  have w6 : g 6 = K 6 := hw 6 (by omega)
  obtain ⟨c0, c1, c2, c3, c11, c12, c13, c14, c15, c16, c17⟩ := tgF_v gi g
  rw [w3] at c1 c13 c14
  rw [w6] at c2 c16 c17
  rw [w4] at c11
  rw [w5] at c12
  generalize tgF gi g = GG at *
  have F0 : sw0_X1_take f K 0 = nI T := hN.1
  have F1 : sw0_X1_take f K 1 = f 1 + K 3 := rfl
  have F2 : sw0_X1_take f K 2 = f 2 + K 6 := rfl
  have F3 : ∀ k, 3 ≤ k → sw0_X1_take f K k = f k := fun k hk => by unfold sw0_X1_take; rw [upd_ne (by omega), upd_ne (by omega)]
  have hL : sr_L_level GG = sr_X1_level (sw0_X1_take f K) := lev_L (by rw [c1, F1, h1 1 (by omega)]) (by rw [c2, F2, h1 2 (by omega)])
  rw [hL, en_form (by omega) F0]
  generalize sr_X1_level (sw0_X1_take f K) = L at *
  obtain ⟨e0, e1, e2, e3, e4, e5, e6⟩ := en_v (bg re L T) K L (T / 144 % 10 * 6)
  obtain ⟨t0, t1, t2, t3, t4, t5, t6⟩ := trF_v ri g (j161_0_L_run T di) L (T / 144 % 10 * 6)
  obtain ⟨b0, b1, b2, b3, b4, b5, b6⟩ := bg_v re L (T / 144 % 10 * 6)
  rw [w3] at t4 t5
  rw [w4] at t0
  rw [w5] at t1
  generalize trF ri g (j161_0_L_run T di) L (T / 144 % 10 * 6) = RT at *
  have T0 : sw2_X1_take to K 0 = to 0 + K 4 := rfl
  have T1 : sw2_X1_take to K 1 = to 1 + K 5 := rfl
  have T2 : sw2_X1_take to K 2 = to 2 + ag_max 0 (K 3) := rfl
  have T3 : sw2_X1_take to K 3 = to 3 + ag_max 0 (-(K 3)) := rfl
  have T4 : sw2_X1_take to K 4 = to 4 := rfl
  have T5 : sw2_X1_take to K 5 = to 5 + ag_max 0 (K 6) := rfl
  have T6 : sw2_X1_take to K 6 = to 6 + ag_max 0 (-(K 6)) := rfl
  rw [mx0] at T2 T5
  rw [mx0n v5] at T3
  rw [mx0n (by omega)] at T6
  rw [mx0] at e4
  rw [mx0n v5] at e5
  generalize sw2_X1_take to K = TO at *
  generalize sw0_X1_take f K = F at *
  have cd2 : nd (T + 1) = T / 144 + 1 := by unfold nd; omega
  have old : ∀ D, D < nd (T + 1) → nd (T + 1) ≤ D + 10 → ¬ D = T / 144 → D < nd T ∧ nd T ≤ D + 10 ∧ ¬ D % 10 = T / 144 % 10 := fun D d1 d2 d3 => by
    rw [cd2] at d1 d2
    unfold nd
    omega
  have bgo : ∀ k, k < T / 144 % 10 * 6 ∨ T / 144 % 10 * 6 + 6 ≤ k → bg re L T k = re k := fun k hk => by
    unfold bg
    split
    · exact b6 k hk
    · rfl
  refine ⟨⟨?_, ?_, ?_, ?_, ?_, ?_⟩, ?_, ?_, ?_, ?_, ?_, ?_, ?_, ?_, ?_⟩
  · rw [upd_eq, F0, nI_1]
  · rw [upd_ne (by omega), F1]; exact ⟨nw, v1, v1b⟩
  · rw [upd_ne (by omega), F2]; exact ⟨ns, v2, v2b⟩
  · rw [upd_ne (by omega), F3 3 (by omega)]; exact hN.2.2.2.1
  · rw [upd_ne (by omega), F3 4 (by omega)]; exact hN.2.2.2.2.1
  · rw [upd_ne (by omega), F3 5 (by omega)]; exact hN.2.2.2.2.2
  · intro k hk
    by_cases k0 : k = 0
    · rw [k0, c0, upd_eq, F0, h1 0 (by omega), hN.1]
    · rw [upd_ne k0]
      by_cases k1 : k = 1
      · rw [k1, c1, F1, h1 1 (by omega)]
      · by_cases k2 : k = 2
        · rw [k2, c2, F2, h1 2 (by omega)]
        · rw [c3 k (by omega) (by omega), F3 k (by omega), h1 k hk]
  · intro k hk
    rw [c3 _ (by omega) (by omega), h2 k hk]
  · intro k hk
    rcases k with _ | _ | _ | _ | _ | _ | _ | k
    · exact c11.trans (by rw [T0]; exact congrArg (· + K 4) (h3 0 (by omega)))
    · exact c12.trans (by rw [T1]; exact congrArg (· + K 5) (h3 1 (by omega)))
    · exact c13.trans (by rw [T2]; exact congrArg (· + _) (h3 2 (by omega)))
    · exact c14.trans (by rw [T3]; exact congrArg (· + _) (h3 3 (by omega)))
    · exact c15.trans (by rw [T4]; exact h3 4 (by omega))
    · exact c16.trans (by rw [T5]; exact congrArg (· + _) (h3 5 (by omega)))
    · exact c17.trans (by rw [T6]; exact congrArg (· + _) (h3 6 (by omega)))
    · omega
  · intro D d1 d2
    by_cases c : D = T / 144
    · rw [c, upd_eq]
    · obtain ⟨o1, o2, o3⟩ := old D d1 d2 c
      rw [upd_ne o3, h4 D o1 o2]
  · intro j j1 j2
    rw [cd2] at j1
    rw [upd_ne (by omega)]
    exact h5 j (by unfold nd; omega) j2
  · intro D d1 d2
    by_cases c : D = T / 144
    · subst c
      by_cases c3 : T % 144 = 0
      · have o0 : ¬ j161_0_L_run T di = 0 := fun e => ho.mp e c3
        simp only [if_neg o0] at t0 t1 t2 t3 t4 t5
        have hb : bg re L T = sw3_X1_beginRecord re L (T / 144 % 10 * 6) := by unfold bg; rw [if_pos c3]
        rw [hb] at e0 e1 e2 e3 e4 e5 ⊢
        rw [b0] at e0
        rw [b1] at e1
        rw [b2, mx_s] at e2
        rw [b3, mn_s] at e3
        rw [b4] at e4
        rw [b5] at e5
        refine six ?_ ?_ ?_ ?_ ?_ ?_
        · rw [t0, e0, Int32.add_comm]
        · rw [t1, e1, Int32.add_comm]
        · rw [t2, e2]
        · rw [t3, e3]
        · rw [t4, e4, Int32.add_comm]
        · rw [t5, e5, Int32.add_comm]
      · have o0 : j161_0_L_run T di = 0 := ho.mpr c3
        simp only [if_pos o0] at t0 t1 t2 t3 t4 t5
        have hb : bg re L T = re := by unfold bg; rw [if_neg c3]
        rw [hb] at e0 e1 e2 e3 e4 e5 ⊢
        have cd : nd T = T / 144 + 1 := by unfold nd; omega
        have r := h6 (T / 144) (by omega) (by omega)
        rw [r 0 (by omega)] at t0
        rw [r 1 (by omega)] at t1
        rw [r 2 (by omega), mx_L] at t2
        rw [r 3 (by omega), mn_L] at t3
        rw [r 4 (by omega)] at t4
        rw [r 5 (by omega)] at t5
        refine six ?_ ?_ ?_ ?_ ?_ ?_
        · rw [t0, e0, Int32.add_comm]
        · rw [t1, e1, Int32.add_comm]
        · rw [t2, e2]
        · rw [t3, e3]
        · rw [t4, e4, Int32.add_comm]
        · rw [t5, e5, Int32.add_comm]
    · obtain ⟨o1, o2, o3⟩ := old D d1 d2 c
      intro j hj
      rw [t6 _ (by omega), e6 _ (by omega), bgo _ (by omega), h6 D o1 o2 j hj]
  · intro D d1 d2
    by_cases c : D = T / 144
    · subst c
      rw [e2, e3]
      exact mnx _ _ _
    · obtain ⟨o1, o2, o3⟩ := old D d1 d2 c
      rw [e6 _ (by omega), e6 _ (by omega), bgo _ (by omega), bgo _ (by omega)]
      exact h7 D o1 o2
  · rw [upd_ne (by omega), F1, T2, T3]
    exact add_u h8
  · rw [upd_ne (by omega), F2, T4, T5, T6]
    exact add_s h9
