/-! the model: steps of a play -/
abbrev mpu : Type := Int32 × (Nat → Int32) × (Nat → Int32) × (Nat → Int32) × (Nat → Int32)
/-- the texts' orders: whether all went; the model's own numbers, its state, its past, what was told -/
def mpA (x : mpu) : Nat → Int32 := upd x.2.1 11 (x.2.1 10)
def mpR (mx : Nat → Int32) (x : mpu) : Int32 := sr_X6_reads (mpA x) mx x.2.2.2.2
def mpF (mx : Nat → Int32) (x : mpu) : Nat → Int32 := sw0_X6_reads (mpA x) mx x.2.2.2.2
def mpD (mx : Nat → Int32) (x : mpu) : Nat → Int32 := sw2_X6_reads (mpA x) mx x.2.2.2.2
def mpI (mx : Nat → Int32) (x : mpu) : Int32 := sr_X6_calls (mpF mx x) x.2.2.1 (mpD mx x)
def mpG (mx : Nat → Int32) (x : mpu) : Nat → Int32 := sw0_X6_calls (mpF mx x) x.2.2.1 (mpD mx x)
def mpE (f : Nat → Int32) (r c : Int32) : Nat → Int32 := upd (upd (upd f 12 r) 13 c) 14 (f 14 + 1)
def mpS (mx : Nat → Int32) (x : mpu) : mpu :=
  if mpR mx x = 0 then (0, mpE (mpF mx x) 1 (mpF mx x 10 - mpF mx x 11), x.2.2.1, x.2.2.2.1, mpD mx x)
  else (if mpI mx x ≤ -1000000001 then 0 else 1, mpE (mpG mx x) 2 (mpI mx x), sw1_X6_calls (mpF mx x) x.2.2.1 (mpD mx x), sw2_X6_calls (mpF mx x) x.2.2.1 x.2.2.2.1 (mpD mx x), mpD mx x)
def mpl (mx : Nat → Int32) : Nat → mpu → mpu
  | 0, x => x
  | n + 1, x => if x.2.1 2 ≤ x.2.1 10 then x else if x.1 = 0 then x else mpl mx n (mpS mx x)
theorem mpl_a {mx : Nat → Int32} {n : Nat} {x : mpu} (h : x.2.1 2 ≤ x.2.1 10) : mpl mx n x = x := by
  cases n with
  | zero => rfl
  | succ n => rw [mpl, if_pos h]
theorem mpl_b {mx : Nat → Int32} {n : Nat} {x : mpu} (h : x.1 = 0) : mpl mx n x = x := by
  cases n with
  | zero => rfl
  | succ n => rw [mpl, if_pos h]; split <;> rfl
theorem mpl_c {mx : Nat → Int32} {n : Nat} {x : mpu} (h : ¬ x.2.1 2 ≤ x.2.1 10) (h2 : ¬ x.1 = 0) : mpl mx (n + 1) x = mpl mx n (mpS mx x) := by rw [mpl, if_neg h, if_neg h2]
theorem mpS_0 {mx : Nat → Int32} {x : mpu} (h : mpR mx x = 0) : mpS mx x = (0, mpE (mpF mx x) 1 (mpF mx x 10 - mpF mx x 11), x.2.2.1, x.2.2.2.1, mpD mx x) := by rw [mpS, if_pos h]
theorem mpS_1 {mx : Nat → Int32} {x : mpu} (h : ¬ mpR mx x = 0) (h2 : mpI mx x ≤ -1000000001) : mpS mx x = (0, mpE (mpG mx x) 2 (mpI mx x), sw1_X6_calls (mpF mx x) x.2.2.1 (mpD mx x), sw2_X6_calls (mpF mx x) x.2.2.1 x.2.2.2.1 (mpD mx x), mpD mx x) := by rw [mpS, if_neg h, if_pos h2]
theorem mpS_2 {mx : Nat → Int32} {x : mpu} (h : ¬ mpR mx x = 0) (h2 : ¬ mpI mx x ≤ -1000000001) : mpS mx x = (1, mpE (mpG mx x) 2 (mpI mx x), sw1_X6_calls (mpF mx x) x.2.2.1 (mpD mx x), sw2_X6_calls (mpF mx x) x.2.2.1 x.2.2.2.1 (mpD mx x), mpD mx x) := by rw [mpS, if_neg h, if_neg h2]
/-- what a step keeps -/
def mpQ (n : Nat) (x : mpu) : Prop := tq x.2.1 ∧ cq x.2.1 ∧ mq x.2.2.1 ∧ (¬ x.1 = 0 → (x.2.1 2).toNatClampNeg ≤ sp x.2.1 + n)
theorem mpE_ne {f : Nat → Int32} {r c : Int32} {k : Nat} (h : k < 12 ∨ 14 < k) : mpE f r c k = f k := by
  unfold mpE; rw [upd_ne (by omega), upd_ne (by omega), upd_ne (by omega)]
theorem mpA_ne {x : mpu} {k : Nat} (h : ¬ k = 11) : mpA x k = x.2.1 k := upd_ne h
theorem mpE_tq {f : Nat → Int32} {r c : Int32} (h : tq f) : tq (mpE f r c) := tq_eq h (mpE_ne (f := f) (r := r) (c := c) (k := 10) (by omega)) (mpE_ne (f := f) (r := r) (c := c) (k := 2) (by omega))
theorem mpE_cq {f : Nat → Int32} {r c : Int32} (h : cq f) : cq (mpE f r c) := cq_eq h (mpE_ne (f := f) (r := r) (c := c) (k := 0) (by omega))
theorem mpE_sp {f : Nat → Int32} {r c : Int32} : sp (mpE f r c) = sp f := by unfold sp; rw [mpE_ne (by omega)]
/-- the same over names: what is read moves from A to F, what is called from F to G -/
theorem mp_st {A F G : Nat → Int32} {n : Nat} {r c : Int32} (t1 : tm A F) (k1 : cq G) (k2 : ∀ k : Nat, ¬ k = 0 → (k < 3 ∨ 10 ≤ k) → G k = F k) (h : sp A + 1 ≤ sp F) (hT : (A 2).toNatClampNeg ≤ sp A + (n + 1)) :
    tq (mpE G r c) ∧ cq (mpE G r c) ∧ (mpE G r c 2).toNatClampNeg ≤ sp (mpE G r c) + n := by
  have g10 : G 10 = F 10 := k2 10 (by omega) (by omega)
  have g2 : G 2 = F 2 := k2 2 (by omega) (by omega)
  have a2 : F 2 = A 2 := t1.2.1 2 (by omega) (by omega)
  refine ⟨mpE_tq (tq_eq t1.1 g10 g2), mpE_cq k1, ?_⟩
  rw [mpE_sp, mpE_ne (by omega), g2, a2, show sp G = sp F by unfold sp; rw [g10]]
  omega
theorem mpA_tq {x : mpu} (h : tq x.2.1) : tq (mpA x) := tq_eq h (mpA_ne (by omega)) (mpA_ne (by omega))
theorem mpA_sp {x : mpu} : sp (mpA x) = sp x.2.1 := by unfold sp; rw [mpA_ne (by omega)]
theorem mpF_tm {mx : Nat → Int32} {x : mpu} (h : tq x.2.1) : tm (mpA x) (mpF mx x) ∧ (¬ mpR mx x = 0 → sp (mpA x) + 1 ≤ sp (mpF mx x)) := by
  unfold mpF mpR
  exact rd_tm (mpA_tq h)
theorem mpF_cq {mx : Nat → Int32} {x : mpu} (h : tq x.2.1) (h2 : cq x.2.1) : cq (mpF mx x) := by
  have t := (mpF_tm (mx := mx) h).1
  generalize mpF mx x = F at t ⊢
  exact cq_eq h2 ((t.2.1 0 (by omega) (by omega)).trans (mpA_ne (by omega)))
theorem mpG_f {mx : Nat → Int32} {x : mpu} (h : cq (mpF mx x)) : cq (mpG mx x) ∧ (∀ k : Nat, ¬ k = 0 → (k < 3 ∨ 10 ≤ k) → mpG mx x k = mpF mx x k) := by
  unfold mpG
  exact ⟨(calls_f (mp := x.2.2.2.1) h).1, (calls_f (mp := x.2.2.2.1) h).2.1⟩
theorem mpQ_S {mx : Nat → Int32} {n : Nat} {x : mpu} (hQ : mpQ (n + 1) x) (h1 : ¬ x.1 = 0) : mpQ n (mpS mx x) := by
  obtain ⟨q1, q2, q3, q4⟩ := hQ
  obtain ⟨t1, t2⟩ := mpF_tm (mx := mx) q1
  have c2 := mpF_cq (mx := mx) q1 q2
  by_cases c : mpR mx x = 0
  · rw [mpS_0 c]
    generalize mpF mx x = F at t1 c2 ⊢
    exact ⟨mpE_tq t1.1, mpE_cq c2, q3, fun h => absurd rfl h⟩
  · obtain ⟨k1, k2⟩ := mpG_f c2
    have r3 := calls_mq (mf := mpF mx x) (md := mpD mx x) q3
    have hT : (mpA x 2).toNatClampNeg ≤ sp (mpA x) + (n + 1) := by rw [mpA_ne (by omega), mpA_sp]; exact q4 h1
    have st := fun i : Int32 => mp_st (r := 2) (c := i) t1 k1 k2 (t2 c) hT
    by_cases c3 : mpI mx x ≤ -1000000001
    · rw [mpS_1 c c3]
      generalize sw1_X6_calls (mpF mx x) x.2.2.1 (mpD mx x) = S at r3 ⊢
      generalize mpI mx x = I at st ⊢
      generalize mpG mx x = G at st ⊢
      exact ⟨(st I).1, (st I).2.1, r3, fun _ => (st I).2.2⟩
    · rw [mpS_2 c c3]
      generalize sw1_X6_calls (mpF mx x) x.2.2.1 (mpD mx x) = S at r3 ⊢
      generalize mpI mx x = I at st ⊢
      generalize mpG mx x = G at st ⊢
      exact ⟨(st I).1, (st I).2.1, r3, fun _ => (st I).2.2⟩
theorem mpQ_end {x : mpu} (hQ : mpQ 0 x) (h : ¬ x.2.1 2 ≤ x.2.1 10) : x.1 = 0 := Classical.byContradiction fun h2 => by
  obtain ⟨⟨S, T, h3, h4, h5, h6⟩, -, -, h7⟩ := hQ
  have := h7 h2
  unfold sp at this
  rw [h3, h4, nI_clamp (by omega), nI_clamp (by omega)] at this
  exact h (by rw [h3, h4]; exact (nI_leI (by omega) (by omega)).mpr (by omega))
theorem pre55 {mx fi di : Nat → Int32} (h1 : tq fi) (h2 : cq fi) : cq (sw0_X6_reads (upd fi 11 (fi 10)) mx di) := by
  have h := mpF_cq (mx := mx) (x := (0, fi, fi, fi, di)) h1 h2
  unfold mpF mpA at h
  exact h
def mp0 (mf : Nat → Int32) : Nat → Int32 := upd (upd (upd (upd mf 1 1) 10 0) 11 0) 14 0
theorem mpQ_0 {mf ms mp md : Nat → Int32} (ht : tT mf) (hc : cq mf) (hq : mq ms) : mpQ 60 (1, mp0 mf, ms, mp, md) := by
  obtain ⟨T, h1, h2⟩ := ht
  refine ⟨⟨0, T, rfl, h1, by omega, h2⟩, cq_eq hc rfl, hq, fun _ => ?_⟩
  show (mf 2).toNatClampNeg ≤ _
  rw [h1, nI_clamp (by omega)]
  omega
def mpX (mf ms mp mx md : Nat → Int32) : mpu := mpl mx 60 (1, mp0 mf, ms, mp, md)
theorem mpl_Q {mx : Nat → Int32} : ∀ (n : Nat) (x : mpu), mpQ n x → mpQ 0 (mpl mx n x)
  | 0, _, h => h
  | n + 1, x, h => by
    by_cases c : x.2.1 2 ≤ x.2.1 10
    · rw [mpl_a c]
      obtain ⟨⟨S, T, h3, h4, h5, h6⟩, b, d, -⟩ := h
      refine ⟨⟨S, T, h3, h4, h5, h6⟩, b, d, fun _ => ?_⟩
      unfold sp
      rw [h3, h4] at c
      rw [h3, h4, nI_clamp (by omega), nI_clamp (by omega)]
      exact (nI_leI (by omega) (by omega)).mp c
    · by_cases c2 : x.1 = 0
      · rw [mpl_b c2]; exact ⟨h.1, h.2.1, h.2.2.1, fun e => absurd c2 e⟩
      · rw [mpl_c c c2]; exact mpl_Q n _ (mpQ_S h c2)
