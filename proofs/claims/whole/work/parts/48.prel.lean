/-! a play: the class and the model alike -/
def PS (se : Nat → Int32) (t p T : Nat) (x : plu) (y : mpu) : Prop := TS t p x.2.1 y.2.1 ∧ T ≤ 9999 ∧ LR T x.2.2.1 se x.2.2.2.1 x.2.2.2.2.1 y.2.2.1 ∧ y.1 = 1 ∧ x.1 2 = 0 ∧ x.1 0 = y.2.1 14 ∧ (¬ y.2.1 1 = 0) ∧ cq y.2.1
def FR (se : Nat → Int32) (t : Nat) (X : plu) (Y : mpu) (z : Int32) (mp : Nat → Int32) : Prop := X.2.1 0 = nI t ∧ Y.2.1 2 = nI t ∧ Y.2.1 0 = z ∧ Y.2.2.2.1 = mp ∧
  ((X.1 2 = 0 ∧ Y.1 = 1 ∧ X.1 0 = Y.2.1 14 ∧ ∃ T, T ≤ 9999 ∧ LR T X.2.2.1 se X.2.2.2.1 X.2.2.2.2.1 Y.2.2.1) ∨ (¬ X.1 2 = 0 ∧ Y.1 = 0 ∧ X.1 1 = Y.2.1 11 ∧ X.1 2 = Y.2.1 12 ∧ X.1 3 = Y.2.1 13))
theorem err_iff {x : Int32} : (sr_X5_isError x = 0 ↔ ¬ x ≤ -1000000001) := by
  unfold sr_X5_isError
  by_cases c : -1000000001 < x
  · rw [if_pos c]
    exact ⟨fun _ => Int32.not_le.mpr c, fun _ => rfl⟩
  · rw [if_neg c]
    exact ⟨fun h => absurd h (by decide), fun h => absurd (Int32.not_le.mp h) c⟩
theorem mpE_v {f : Nat → Int32} {r c : Int32} : mpE f r c 11 = f 11 ∧ mpE f r c 12 = r ∧ mpE f r c 13 = c ∧ mpE f r c 14 = f 14 + 1 := by
  unfold mpE
  refine ⟨?_, ?_, ?_, ?_⟩
  · rw [upd_ne (by omega), upd_ne (by omega), upd_ne (by omega)]
  · rw [upd_ne (by omega), upd_ne (by omega), upd_eq]
  · rw [upd_ne (by omega), upd_eq]
  · rw [upd_eq]
theorem pl_rel {se ch mx : Nat → Int32} {t : Nat} (hX : TX_ t ch mx) : ∀ (n : Nat) (x : plu) (y : mpu) (p T : Nat), PS se t p T x y → FR se t (pl se ch n x) (mpl mx n y) (y.2.1 0) y.2.2.2.1
  | 0, x, y, p, T, ⟨h1, h2, h3, h4, h5, h6, h7, h8⟩ => ⟨h1.1, h1.2.2.1, rfl, rfl, Or.inl ⟨h5, h4, h6, T, h2, h3⟩⟩
  | n + 1, x, y, p, T, ⟨h1, h2, h3, h4, h5, h6, h7, h8⟩ => by
    obtain ⟨t0, t1, t2, t3, t4, t5⟩ := id h1
    by_cases c : t ≤ p
    · rw [pl_a (x := x) (by rw [t0, t1]; exact (nI_leI (by omega) (by omega)).mpr c), mpl_a (x := y) (by rw [t2, t3]; exact (nI_leI (by omega) (by omega)).mpr c)]
      exact ⟨t0, t2, rfl, rfl, Or.inl ⟨h5, h4, h6, T, h2, h3⟩⟩
    · have e1 : ¬ x.2.1 0 ≤ x.2.1 1 := fun e => c (by rw [t0, t1] at e; exact (nI_leI (by omega) (by omega)).mp e)
      have e2 : ¬ y.2.1 2 ≤ y.2.1 10 := fun e => c (by rw [t2, t3] at e; exact (nI_leI (by omega) (by omega)).mp e)
      have e3 : ¬ y.1 = 0 := by rw [h4]; decide
      rw [mpl_c e2 e3]
      have hA : TS t p x.2.1 (mpA y) := ⟨t0, t1, by rw [mpA_ne (by omega)]; exact t2, by rw [mpA_ne (by omega)]; exact t3, t4, t5⟩
      obtain ⟨tm1, -⟩ := mpF_tm (mx := mx) (TS_tq h1)
      have A11 : mpA y 11 = nI p := by unfold mpA; rw [upd_eq]; exact t3
      have fr : ∀ k : Nat, ¬ k = 10 → ¬ k = 15 → ¬ k = 11 → mpF mx y k = y.2.1 k := fun k k1 k2 k3 => (tm1.2.1 k k1 k2).trans (mpA_ne k3)
      have F11 : mpF mx y 11 = nI p := (tm1.2.1 11 (by omega) (by omega)).trans A11
      have rd : RD t p (plT ch x) (mpF mx y) (mpD mx y) (sr_X3_readOrder x.2.1 ch) (mpR mx y) := by
        unfold plT mpF mpD mpR
        exact rd_rel hX hA
      obtain ⟨q, q1, q2⟩ := rd
      have F0 := fr 0 (by omega) (by omega) (by omega)
      have F1 := fr 1 (by omega) (by omega) (by omega)
      have F2 := fr 2 (by omega) (by omega) (by omega)
      have F14 := fr 14 (by omega) (by omega) (by omega)
      rcases q2 with ⟨r1, r2⟩ | ⟨r1, r2, r3, r4, r5, r6⟩
      · rw [pl_b e1 r1, mpS_0 r2, mpl_b rfl]
        generalize plT ch x = W at q1 ⊢
        generalize mpF mx y = M at q1 F0 F1 F2 F11 F14 ⊢
        obtain ⟨w0, w1, w2, w3, w4, w5⟩ := q1
        obtain ⟨v1, v2, v3, v4⟩ := mpE_v (f := M) (r := 1) (c := M 10 - M 11)
        have m0 : mpE M 1 (M 10 - M 11) 0 = y.2.1 0 := (mpE_ne (by omega)).trans F0
        have m2 : mpE M 1 (M 10 - M 11) 2 = nI t := (mpE_ne (by omega)).trans w2
        unfold FR
        dsimp only
        refine ⟨w0, m2, m0, rfl, Or.inr ⟨?_, rfl, ?_, ?_, ?_⟩⟩
        · rw [upd_ne (by omega), upd_eq]; decide
        · rw [upd_ne (by omega), upd_ne (by omega), upd_eq, v1, F11, t1]
        · rw [upd_ne (by omega), upd_eq, v2]
        · rw [upd_eq, v3, w1, w3, F11, t1]
      · have cF := mpF_cq (mx := mx) (TS_tq h1) h8
        obtain ⟨k1, k2, k3⟩ := calls_f (ms := y.2.2.1) (mp := y.2.2.2.1) (md := mpD mx y) cF
        obtain ⟨k4, k5⟩ := k3 (by rw [F1]; exact h7)
        have cl := cl_rel (kf := x.2.2.2.2.2) h2 h3 r4 r5 r6
        have cl1 : plR se ch x = mpI mx y := cl.1
        obtain ⟨U, U1, U2⟩ := cl.2
        have U2 : LR U (plO se ch x).1 se (plO se ch x).2.1 (plO se ch x).2.2.1 (sw1_X6_calls (mpF mx y) y.2.2.1 (mpD mx y)) := U2
        have G0 : mpG mx y 0 = y.2.1 0 := k4.trans F0
        have G1 : mpG mx y 1 = y.2.1 1 := (k2 1 (by omega) (by omega)).trans F1
        have G2 : mpG mx y 2 = mpF mx y 2 := k2 2 (by omega) (by omega)
        have G10 : mpG mx y 10 = mpF mx y 10 := k2 10 (by omega) (by omega)
        have G11 : mpG mx y 11 = nI p := (k2 11 (by omega) (by omega)).trans F11
        have G14 : mpG mx y 14 = y.2.1 14 := (k2 14 (by omega) (by omega)).trans F14
        have Gc : cq (mpG mx y) := k1
        by_cases c3 : mpI mx y ≤ -1000000001
        · rw [pl_d e1 r1 (by rw [cl1]; exact fun e => err_iff.mp e c3), mpS_1 r2 c3, mpl_b rfl, cl1]
          generalize plT ch x = W at q1 ⊢
          generalize mpI mx y = I
          generalize mpG mx y = G at G0 G2 G11 ⊢
          obtain ⟨v1, v2, v3, v4⟩ := mpE_v (f := G) (r := 2) (c := I)
          have m0 : mpE G 2 I 0 = y.2.1 0 := (mpE_ne (by omega)).trans G0
          have m2 : mpE G 2 I 2 = nI t := ((mpE_ne (by omega)).trans G2).trans q1.2.2.1
          unfold FR
          dsimp only
          refine ⟨q1.1, m2, m0, k5, Or.inr ⟨?_, rfl, ?_, ?_, ?_⟩⟩
          · rw [upd_ne (by omega), upd_eq]; decide
          · rw [upd_ne (by omega), upd_ne (by omega), upd_eq, v1, G11, t1]
          · rw [upd_ne (by omega), upd_eq, v2]
          · rw [upd_eq, v3]
        · rw [pl_c e1 r1 (by rw [cl1]; exact err_iff.mpr c3), mpS_2 r2 c3]
          have st : PS se t q U (upd (upd x.1 1 (x.2.1 1)) 0 (x.1 0 + 1), plT ch x, plO se ch x) (1, mpE (mpG mx y) 2 (mpI mx y), sw1_X6_calls (mpF mx y) y.2.2.1 (mpD mx y), sw2_X6_calls (mpF mx y) y.2.2.1 y.2.2.2.1 (mpD mx y), mpD mx y) := by
            obtain ⟨w0, w1, w2, w3, w4, w5⟩ := q1
            obtain ⟨v1, v2, v3, v4⟩ := mpE_v (f := mpG mx y) (r := 2) (c := mpI mx y)
            have m2 : mpE (mpG mx y) 2 (mpI mx y) 2 = nI t := ((mpE_ne (by omega)).trans G2).trans w2
            have m10 : mpE (mpG mx y) 2 (mpI mx y) 10 = nI q := ((mpE_ne (by omega)).trans G10).trans w3
            unfold PS
            dsimp only
            refine ⟨⟨w0, w1, m2, m10, w4, w5⟩, U1, U2, rfl, ?_, ?_, ?_, mpE_cq Gc⟩
            · rw [upd_ne (by omega), upd_ne (by omega)]; exact h5
            · rw [upd_eq, v4, G14, h6]
            · rw [mpE_ne (by omega), G1]; exact h7
          have ih := pl_rel hX n _ _ q U st
          have Z0 : mpE (mpG mx y) 2 (mpI mx y) 0 = y.2.1 0 := (mpE_ne (by omega)).trans G0
          dsimp only at ih
          rw [Z0] at ih
          obtain ⟨i1, i2, i3, i4, i5⟩ := ih
          exact ⟨i1, i2, i3, Eq.trans i4 k5, i5⟩
theorem pl_start {se ch mx pf tf f to re kf mf ms mp md : Nat → Int32} {t T : Nat} (hX : TX_ t ch mx) (h0 : tf 0 = nI t) (h2 : mf 2 = nI t) (ht : t ≤ 60) (hc : cq mf) (hT : T ≤ 9999) (h : LR T f se to re ms) :
    FR se t (pl se ch 60 (upd (upd pf 0 0) 2 0, upd tf 1 0, f, to, re, kf)) (mpX mf ms mp mx md) (mf 0) mp := by
  have m : ∀ k, ¬ k = 1 → ¬ k = 10 → ¬ k = 11 → ¬ k = 14 → mp0 mf k = mf k := fun k k1 k2 k3 k4 => by unfold mp0; rw [upd_ne k4, upd_ne k3, upd_ne k2, upd_ne k1]
  have m0 := m 0 (by omega) (by omega) (by omega) (by omega)
  have st : PS se t 0 T (upd (upd pf 0 0) 2 0, upd tf 1 0, f, to, re, kf) (1, mp0 mf, ms, mp, md) := by
    unfold PS
    dsimp only
    refine ⟨⟨?_, ?_, ?_, ?_, by omega, ht⟩, hT, h, rfl, ?_, ?_, ?_, cq_eq hc m0⟩
    · rw [upd_ne (by omega)]; exact h0
    · rw [upd_eq]; rfl
    · rw [m 2 (by omega) (by omega) (by omega) (by omega)]; exact h2
    · unfold mp0
      rw [upd_ne (by omega), upd_ne (by omega), upd_eq]; rfl
    · rw [upd_eq]
    · unfold mp0
      rw [upd_ne (by omega), upd_eq, upd_eq]
    · unfold mp0
      rw [upd_ne (by omega), upd_ne (by omega), upd_ne (by omega), upd_eq]
      decide
  have k := pl_rel hX 60 _ _ 0 T st
  dsimp only at k
  rw [m0] at k
  unfold mpX
  exact k
