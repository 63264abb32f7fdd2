/-! answers: counts, texts, faults, plays; what holds of the whole behind each call -/
theorem pr_7 {T : Nat} {f : Nat → Int32} (hT : T ≤ 9999) (h : f 0 = nI T) : (sr_X1_lastDay f - sr_X1_firstDay f) + 1 = nI (nr T) := by
  obtain ⟨d1, d2⟩ := days (by omega) h
  have hn := nr_le T
  have hb : nd T ≤ 70 := by unfold nd; omega
  rw [d1, d2]
  exact i_nat (i_add (b := 1) (i_sub (i_sub (b := 1) (nI_toInt (n := nd T) (by omega)) rfl (by omega) (by omega)) (nI_toInt (n := nd T - nr T) (by omega)) (by omega) (by omega)) rfl (by omega) (by omega)) (by omega) (by omega)
theorem q_count {T t : Nat} {hf f se to re tf ch mf ms mx : Nat → Int32} (hT : T ≤ 9999) (h : LR T f se to re ms) (hh : hf 1 = mf 0) (ht : TZ t tf ch mf mx) (p : Int32) : sr_X5_count hf f se to tf p = sr_X6_count mf ms p := by
  have e7 := pr_7 hT h.1.1
  have a0 : ms 11 = to 0 := h.2.2.2.1 0 (by omega)
  have a1 : ms 12 = to 1 := h.2.2.2.1 1 (by omega)
  have a2 : ms 13 = to 2 := h.2.2.2.1 2 (by omega)
  have a3 : ms 14 = to 3 := h.2.2.2.1 3 (by omega)
  have a4 : ms 15 = to 4 := h.2.2.2.1 4 (by omega)
  have a5 : ms 16 = to 5 := h.2.2.2.1 5 (by omega)
  have a6 : ms 17 = to 6 := h.2.2.2.1 6 (by omega)
  have a7 : ms 18 = nI (nr T) := h.2.2.2.2.1.1
  have a9 : tf 0 = mf 2 := ht.1.trans ht.2.1.symm
  have s3 := h.2.2.1
  unfold sr_X5_count sr_X6_count
  rw [e7, hh, a9, a0, a1, a2, a3, a4, a5, a6, a7]
  by_cases c1 : p < 0
  · have n : ∀ a : Nat, a < 2 ^ 31 → ¬ p = nI a := fun a ha e => nI_pos ha (e ▸ c1)
    have c20 : p < 20 := by
      rw [Int32.lt_iff_toInt_lt] at c1 ⊢
      have e0 : (0 : Int32).toInt = 0 := rfl
      have e1 : (20 : Int32).toInt = 20 := rfl
      omega
    rw [if_pos c1, if_pos c20, if_neg (show ¬ p = 7 from n 7 (by decide)), if_neg (show ¬ p = 8 from n 8 (by decide)), if_neg (show ¬ p = 9 from n 9 (by decide)), if_neg (show ¬ p = 0 from n 0 (by decide)), if_neg (show ¬ p = 1 from n 1 (by decide)), if_neg (show ¬ p = 2 from n 2 (by decide)), if_neg (show ¬ p = 3 from n 3 (by decide)), if_neg (show ¬ p = 4 from n 4 (by decide)), if_neg (show ¬ p = 5 from n 5 (by decide)), if_neg (show ¬ p = 6 from n 6 (by decide)), if_neg (show ¬ p = 7 from n 7 (by decide)), if_neg (show ¬ p = 8 from n 8 (by decide)), if_neg (show ¬ p = 9 from n 9 (by decide)), if_pos (in_no (Or.inl c20))]
  · rw [if_neg c1]
    obtain ⟨j, hj, rfl⟩ := nI_of c1
    have n : ∀ a : Nat, a < 2 ^ 31 → ¬ j = a → ¬ nI j = nI a := fun a ha e e2 => e ((nI_eq hj ha).mp e2)
    by_cases c2 : j < 7
    · rw [if_neg (show ¬ (7 : Int32) ≤ nI j from fun e => absurd ((nI_leI (a := 7) (by decide) hj).mp e) (by omega)), nI_clamp hj]
      rcases j with _ | _ | _ | _ | _ | _ | _ | j
      · rfl
      · rfl
      · rfl
      · rfl
      · rfl
      · rfl
      · rfl
      · omega
    · rw [if_pos (show (7 : Int32) ≤ nI j from (nI_leI (a := 7) (by decide) hj).mpr (by omega)), if_neg (show ¬ nI j = 0 from n 0 (by decide) (by omega)), if_neg (show ¬ nI j = 1 from n 1 (by decide) (by omega)), if_neg (show ¬ nI j = 2 from n 2 (by decide) (by omega)), if_neg (show ¬ nI j = 3 from n 3 (by decide) (by omega)), if_neg (show ¬ nI j = 4 from n 4 (by decide) (by omega)), if_neg (show ¬ nI j = 5 from n 5 (by decide) (by omega)), if_neg (show ¬ nI j = 6 from n 6 (by decide) (by omega))]
      by_cases c3 : j < 20
      · rw [if_pos (show nI j < 20 from nI_lt (b := 20) c3 (by decide)), in_no (v := nI j) (a := 20) (b := 22) (Or.inl (nI_lt (b := 20) c3 (by decide))), if_pos (show (0 : Int32) = 0 from rfl)]
      · rw [if_neg (show ¬ nI j < 20 from nI_nlt (b := 20) (by omega) hj), if_neg (show ¬ nI j = 7 from n 7 (by decide) (by omega)), if_neg (show ¬ nI j = 8 from n 8 (by decide) (by omega)), if_neg (show ¬ nI j = 9 from n 9 (by decide) (by omega)), if_neg (show ¬ nI j = 7 from n 7 (by decide) (by omega)), if_neg (show ¬ nI j = 8 from n 8 (by decide) (by omega)), if_neg (show ¬ nI j = 9 from n 9 (by decide) (by omega))]
        by_cases c4 : j < 23
        · have i : ¬ sr_X6_in (nI j) 20 22 = 0 := in_yes (show ¬ nI j < 20 from nI_nlt (b := 20) (by omega) hj) (show nI j ≤ 22 from (nI_leI (b := 22) hj (by decide)).mpr (by omega))
          rw [if_neg (show ¬ (23 : Int32) ≤ nI j from fun e => absurd ((nI_leI (a := 23) (by decide) hj).mp e) (by omega)), if_neg i, nI_clamp hj, s3 _ (by omega), show (20 : Int32) = nI 20 from rfl, pk_sub (by omega), nI_clamp (by omega)]
        · rw [if_pos (show (23 : Int32) ≤ nI j from (nI_leI (a := 23) (by decide) hj).mpr (by omega)), if_pos (in_no (v := nI j) (a := 20) (b := 22) (Or.inr (nI_lt (a := 22) (by omega) hj)))]
/-- a character more -/
theorem q_type {t : Nat} {tf ch mf mx : Nat → Int32} (h : TZ t tf ch mf mx) (p : Int32) : sr_X5_type tf p = sr_X6_type mf p ∧ (∃ u, TZ u (sw24_X5_type tf p) (sw25_X5_type tf ch p) (sw0_X6_type mf p) (sw1_X6_type mf mx p)) ∧ (∀ k, ¬ k = 2 → sw0_X6_type mf p k = mf k) := by
  obtain ⟨h0, h1, h2, h3, h4⟩ := id h
  unfold sr_X5_type sr_X6_type sw24_X5_type sw25_X5_type sw0_X6_type sw1_X6_type gv36_1_X5_type gv36_2_X5_type sw0_X3_append sw1_X3_append xv26_1_X3_append
  rw [in_if, in_if, in_if]
  by_cases c : sr_X6_in p 32 126 = 0
  · simp only [if_pos c]
    exact ⟨trivial, ⟨t, h⟩, fun _ _ => trivial⟩
  · simp only [if_neg c]
    by_cases c2 : t = 60
    · have c3 : mf 2 = 60 := by rw [h1, c2]; rfl
      have c4 : ¬ tf 0 < 60 := by rw [h0, c2]; decide
      simp only [if_pos c3, if_neg c4]
      exact ⟨trivial, ⟨t, h⟩, fun _ _ => trivial⟩
    · have c3 : ¬ mf 2 = 60 := by rw [h1]; exact fun e => c2 ((nI_eq (a := t) (b := 60) (by omega) (by decide)).mp e)
      have c4 : tf 0 < 60 := by rw [h0]; exact nI_lt (b := 60) (by omega) (by decide)
      have c5 : ¬ (60 : Int32) ≤ tf 0 := Int32.not_le.mpr c4
      simp only [if_neg c3, if_pos c4, if_neg c5]
      rw [h0, h1, nI_clamp (by omega)]
      obtain ⟨i1, i2⟩ := in_is c
      obtain ⟨-, -, q, q1, q2⟩ := ag_i2c i1 (Int32.not_lt.mp i2)
      refine ⟨by rw [upd_eq], ⟨t + 1, by rw [upd_eq, nI_1], by rw [upd_eq, nI_1], by omega, fun j hj => ?_, fun j => ?_⟩, fun k hk => upd_ne hk⟩
      · by_cases e : j = t
        · rw [e, upd_eq, upd_eq]
        · rw [upd_ne e, upd_ne e]; exact h3 j (by omega)
      · by_cases e : j = t
        · rw [e, upd_eq]; exact ⟨q, q1, q2⟩
        · rw [upd_ne e]; exact h4 j
theorem TZ_0 {t : Nat} {tf ch mf mx : Nat → Int32} (h : TZ t tf ch mf mx) : TZ 0 (upd tf 0 0) ch (upd mf 2 0) mx := ⟨upd_eq, upd_eq, by omega, fun j hj => by omega, h.2.2.2.2⟩
/-- the count of orders is small -/
theorem pl_cnt {se ch : Nat → Int32} : ∀ (n : Nat) (x : plu) (k : Nat), x.1 0 = nI k → ∃ m : Nat, (pl se ch n x).1 0 = nI m ∧ m ≤ k + n
  | 0, x, k, h => ⟨k, h, by omega⟩
  | n + 1, x, k, h => by
    by_cases c1 : x.2.1 0 ≤ x.2.1 1
    · rw [pl_a c1]; exact ⟨k, h, by omega⟩
    · by_cases c2 : sr_X3_readOrder x.2.1 ch = 0
      · rw [pl_b c1 c2]
        exact ⟨k, by dsimp only; rw [upd_ne (by omega), upd_ne (by omega), upd_ne (by omega)]; exact h, by omega⟩
      · by_cases c3 : sr_X5_isError (plR se ch x) = 0
        · rw [pl_c c1 c2 c3]
          obtain ⟨m, m1, m2⟩ := pl_cnt (se := se) (ch := ch) n (upd (upd x.1 1 (x.2.1 1)) 0 (x.1 0 + 1), plT ch x, plO se ch x) (k + 1) (by dsimp only; rw [upd_eq, h, nI_1])
          exact ⟨m, m1, by omega⟩
        · rw [pl_d c1 c2 c3]
          exact ⟨k, by dsimp only; rw [upd_ne (by omega), upd_ne (by omega), upd_ne (by omega)]; exact h, by omega⟩
theorem RZ_cq {hf f se to re tf ch : Nat → Int32} {sf sse sto sre : Nat → Nat → Int32} {mf ms mp mx : Nat → Int32} (h : RZ hf f se to re tf ch sf sse sto sre mf ms mp mx) : cq mf := HZ_cq h.2.1
theorem RZ_mq {hf f se to re tf ch : Nat → Int32} {sf sse sto sre : Nat → Nat → Int32} {mf ms mp mx : Nat → Int32} (h : RZ hf f se to re tf ch sf sse sto sre mf ms mp mx) : mq ms := by
  obtain ⟨⟨T, hT⟩, -⟩ := h
  exact LR_mq hT.1
theorem RZ_tT {hf f se to re tf ch : Nat → Int32} {sf sse sto sre : Nat → Nat → Int32} {mf ms mp mx : Nat → Int32} (h : RZ hf f se to re tf ch sf sse sto sre mf ms mp mx) : tT mf := by
  obtain ⟨-, -, ⟨t, ht⟩, -⟩ := h
  exact ⟨t, ht.2.1, ht.2.2.1⟩
theorem RZ_hch {hf f se to re tf ch : Nat → Int32} {sf sse sto sre : Nat → Nat → Int32} {mf ms mp mx : Nat → Int32} (h : RZ hf f se to re tf ch sf sse sto sre mf ms mp mx) : ∀ j : Nat, ∃ q : Nat, q < 128 ∧ ch j = nI q := by
  obtain ⟨-, -, ⟨t, ht⟩, -⟩ := h
  exact ht.2.2.2.2
theorem RZ_tf {hf f se to re tf ch : Nat → Int32} {sf sse sto sre : Nat → Nat → Int32} {mf ms mp mx : Nat → Int32} (h : RZ hf f se to re tf ch sf sse sto sre mf ms mp mx) : ¬ tf 0 < 0 := by
  obtain ⟨-, -, ⟨t, ht⟩, -⟩ := h
  rw [ht.1]
  exact nI_pos (by have := ht.2.2.1; omega)
/-- the model's own numbers may change but for three -/
theorem RZ_mf {hf f se to re tf tg ch : Nat → Int32} {sf sse sto sre : Nat → Nat → Int32} {mf mg ms mp mx : Nat → Int32} (h : RZ hf f se to re tf ch sf sse sto sre mf ms mp mx) (e0 : mg 0 = mf 0) (e1 : mg 1 = mf 1) (e2 : mg 2 = mf 2) (e3 : tg 0 = tf 0) : RZ hf f se to re tg ch sf sse sto sre mg ms mp mx := by
  obtain ⟨h1, h2, ⟨t, ht⟩, h4⟩ := h
  exact ⟨h1, HZ_mf h2 e0, ⟨t, e3.trans ht.1, e2.trans ht.2.1, ht.2.2⟩, e1.trans h4⟩
/-- the fault of the text -/
theorem q_fault {hf f se to re tf ch pf kf mh md : Nat → Int32} {sf sse sto sre : Nat → Nat → Int32} {mf ms mp mx : Nat → Int32} (h : RZ hf f se to re tf ch sf sse sto sre mf ms mp mx) (p : Int32) : sr_X5_fault f se to re pf tf ch kf p = sr_X6_fault mf ms mp mx md p ∧
    RZ hf f se to re (sw24_X5_fault f se to re pf tf ch kf p) ch sf sse sto sre (sw0_X6_fault mf ms mp mx md p) ms (sw2_X6_fault mf ms mp mx md p) mx := by
  obtain ⟨⟨T, hT⟩, h2, ⟨t, ht⟩, h4⟩ := id h
  have k := pl_start (se := se) (pf := pf) (kf := kf) (md := md) (mp := mp) ht.2.2.2 ht.1 ht.2.1 ht.2.2.1 (HZ_cq h2) hT.2.1 hT.1
  unfold sr_X5_fault sr_X6_fault sw24_X5_fault sw0_X6_fault sw2_X6_fault gv39_1_X5_fault gv39_2_X5_fault gv24_1_X6_fault gv24_3_X6_fault
  rw [in_if, in_if]
  generalize pl se ch 60 (upd (upd pf 0 0) 2 0, upd tf 1 0, f, to, re, kf) = X at k ⊢
  generalize mpX mf ms mp mx md = Y at k ⊢
  by_cases c : sr_X6_in p 0 2 = 0
  · simp only [if_pos c]
    exact ⟨trivial, h⟩
  · simp only [if_neg c]
    obtain ⟨k1, k2, k3, k4, k5⟩ := k
    refine ⟨?_, ?_⟩
    · rcases k5 with ⟨g1, g2, g3, g4⟩ | ⟨g1, g2, g3, g4, g5⟩
      · rw [if_pos g1, g2, if_neg (by decide)]
      · rw [if_neg g1, if_pos g2, upd_ne (by omega), upd_ne (by omega), upd_ne (by omega), g3, g4, g5]
    · rw [k4]
      exact RZ_mf h (by rw [upd_ne (by omega)]; exact k3) (by rw [upd_eq]; exact h4.symm) (by rw [upd_ne (by omega)]; exact k2.trans ht.2.1.symm) (k1.trans ht.1.symm)
/-- a play -/
theorem q_play {hf f se to re tf ch pf kf md : Nat → Int32} {sf sse sto sre : Nat → Nat → Int32} {mf ms mp mx : Nat → Int32} (h : RZ hf f se to re tf ch sf sse sto sre mf ms mp mx) : sr_X5_play f se to re pf tf ch kf = sr_X6_play mf ms mp mx md ∧
    CZ hf f se to re (sw24_X5_play f se to re pf tf ch kf) ch sf sse sto sre (j53_0_X5_play f se to re pf tf ch kf) (gv27_3_X5_play f se to re pf tf ch kf) se (gv27_4_X5_play f se to re pf tf ch kf) (gv27_5_X5_play f se to re pf tf ch kf) (sw0_X6_play mf ms mp mx md) (sw1_X6_play mf ms mp mx md) (sw2_X6_play mf ms mp mx md) mx := by
  obtain ⟨⟨T, hT⟩, h2, ⟨t, ht⟩, h4⟩ := id h
  have k := pl_start (se := se) (pf := pf) (kf := kf) (md := md) (mp := mp) ht.2.2.2 ht.1 ht.2.1 ht.2.2.1 (HZ_cq h2) hT.2.1 hT.1
  obtain ⟨m, m1, m2⟩ := pl_cnt (se := se) (ch := ch) 60 (upd (upd pf 0 0) 2 0, upd tf 1 0, f, to, re, kf) 0 (by dsimp only; rw [upd_ne (by omega), upd_eq]; rfl)
  unfold sr_X5_play sr_X6_play sw24_X5_play sw0_X6_play sw1_X6_play sw2_X6_play j53_0_X5_play gv27_1_X5_play gv27_2_X5_play gv27_3_X5_play gv27_4_X5_play gv27_5_X5_play gv39_7_X6_play gv39_8_X6_play gv39_9_X6_play gv35_5_X6_play gv35_6_X6_play gv12_1_X6_play gv12_3_X6_play gv12_4_X6_play sr_X5_settle
  have k2nd : ∀ (mg mq2 md2 : Nat → Int32), mg 2 = nI t → cq mg → FR se t (pl se ch 60 (upd (upd pf 0 0) 2 0, upd tf 1 0, f, to, re, kf)) (mpX mg ms mq2 mx md2) (mg 0) mq2 := fun mg mq2 md2 e ec => pl_start ht.2.2.2 ht.1 e ht.2.2.1 ec hT.2.1 hT.1
  generalize pl se ch 60 (upd (upd pf 0 0) 2 0, upd tf 1 0, f, to, re, kf) = X at k k2nd m1 ⊢
  generalize mpX mf ms mp mx md = Y at k ⊢
  obtain ⟨k1, k2, k3, k4, k5⟩ := k
  rw [k4]
  have g0 : upd Y.2.1 1 0 0 = mf 0 := by rw [upd_ne (by omega)]; exact k3
  have g1 : upd Y.2.1 1 0 1 = mf 1 := by rw [upd_eq]; exact h4.symm
  have g2 : upd Y.2.1 1 0 2 = mf 2 := by rw [upd_ne (by omega)]; exact k2.trans ht.2.1.symm
  generalize upd Y.2.1 1 0 = G at g0 g1 g2 ⊢
  have hG := RZ_mf (tg := X.2.1) h g0 g1 g2 (k1.trans ht.1.symm)
  rcases k5 with ⟨c1, c2, c3, c4⟩ | ⟨c1, c2, -⟩
  · have c5 : ¬ Y.1 = 0 := by rw [c2]; decide
    simp only [if_pos c1, if_neg c5]
    obtain ⟨r1, r2, r3, r4, r5⟩ := k2nd (chF G) (chP G ms mp) Y.2.2.2.2 ((chF_ne (by omega)).trans (g2.trans ht.2.1)) (chF_cq (HZ_cq hG.2.1))
    generalize mpX (chF G) ms (chP G ms mp) mx Y.2.2.2.2 = Z at r2 r3 r4 r5 ⊢
    rcases r5 with ⟨d1, d2, d3, U, d4, d5⟩ | ⟨d1, -⟩
    · have d6 : ¬ Z.1 = 0 := by rw [d2]; decide
      simp only [if_neg d6]
      rw [r4]
      refine ⟨by rw [upd_ne (by omega), d3], ?_⟩
      refine CZ_yes hG (by rw [m1]; exact ok_nI (by omega)) ⟨d5, d4, hT.2.2⟩ ?_ ?_ ?_
      · rw [upd_ne (by omega)]; exact r3
      · rw [upd_eq, chF_ne (by omega)]; exact (g1.trans h4).symm
      · rw [upd_ne (by omega), chF_ne (by omega)]; exact r2.trans (g2.trans ht.2.1).symm
    · exact absurd c1 d1
  · simp only [if_neg c1, if_pos c2]
    exact ⟨trivial, CZ_no hG (by decide)⟩
