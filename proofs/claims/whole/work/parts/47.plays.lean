/-! orders: the class and the model alike -/
theorem nb_ne {mx : Nat → Int32} {w j : Nat} (hj : ¬ j = 10) : ∀ (n : Nat) (x : nbu), (nbL mx w n x).1 j = x.1 j
  | 0, _ => rfl
  | n + 1, x => by
    by_cases c : sr_X6_isAt x.1 mx 48 57 = 0
    · rw [nb_a c]
    · rw [nb_b c, nb_ne hj n (nbS mx w x)]
      unfold nbS
      exact upd_ne hj
theorem nbX_ne {mf mx md : Nat → Int32} {w j : Nat} (hj : ¬ j = 10) : (nbX mf mx md w).1 j = mf j := by
  unfold nbX
  exact nb_ne hj 3 _
theorem kd_tab : ∀ q, q < 128 → (sr_X3_isKind (nI q) = 0 ∧ sr_X6_numbersOf (if sr_X6_in (nI q) 33 126 = 0 then 0 else nI q) = 0) ∨ (¬ sr_X3_isKind (nI q) = 0 ∧ ¬ sr_X6_numbersOf (if sr_X6_in (nI q) 33 126 = 0 then 0 else nI q) = 0 ∧ (if sr_X6_in (nI q) 33 126 = 0 then 0 else nI q) = nI q ∧ (nI q = 98 ↔ sr_X6_numbersOf (if sr_X6_in (nI q) 33 126 = 0 then 0 else nI q) = 2)) := by decide +kernel
theorem kd {t p : Nat} {tf mf ch mx : Nat → Int32} (hT : TX_ t ch mx) (h : TS t p tf mf) :
    (sr_X3_isKind (sr_X3_characterHere tf ch) = 0 ∧ sr_X6_numbersOf (j25_0_X6_reads mf mx) = 0) ∨ (p < t ∧ ¬ sr_X3_isKind (sr_X3_characterHere tf ch) = 0 ∧ ¬ sr_X6_numbersOf (j25_0_X6_reads mf mx) = 0 ∧ j25_0_X6_reads mf mx = sr_X3_characterHere tf ch ∧ (sr_X3_characterHere tf ch = 98 ↔ sr_X6_numbersOf (j25_0_X6_reads mf mx) = 2)) := by
  obtain ⟨a1, a2⟩ := at_at (mx := mx) (a := 33) (b := 126) h
  unfold j25_0_X6_reads
  rw [ch_at (ch := ch) h, a1, a2]
  by_cases c : t ≤ p
  · rw [if_pos c, if_pos c, if_pos rfl]
    exact Or.inl ⟨by decide, by decide⟩
  · rw [if_neg c, if_neg c, ← hT.1 p (by omega)]
    obtain ⟨q, q1, q2⟩ := hT.2 p
    rw [q2]
    have k := kd_tab q q1
    have e : (if (if sr_X6_in (nI q) 33 126 = 0 then (0 : Int32) else 1) = 0 then 0 else nI q) = if sr_X6_in (nI q) 33 126 = 0 then 0 else nI q := by
      by_cases c2 : sr_X6_in (nI q) 33 126 = 0
      · rw [if_pos c2, if_pos c2, if_pos rfl]
      · rw [if_neg c2, if_neg c2, if_neg (by decide)]
    rw [e]
    rcases k with k | k
    · exact Or.inl k
    · exact Or.inr ⟨by omega, k⟩
/-- what an order's reading has in common: its place; how it ended; its kind and its numbers -/
def RD (t p : Nat) (W M D : Nat → Int32) (r s : Int32) : Prop := ∃ q : Nat, TS t q W M ∧ ((r = 0 ∧ s = 0) ∨ (¬ r = 0 ∧ ¬ s = 0 ∧ p < q ∧ W 2 = M 15 ∧ W 3 = D 0 ∧ (W 2 = 98 → W 4 = D 1)))
theorem rd_rel {t p : Nat} {tf mf ch mx md : Nat → Int32} (hT : TX_ t ch mx) (h : TS t p tf mf) : RD t p (sw0_X3_readOrder tf ch) (sw0_X6_reads mf mx md) (sw2_X6_reads mf mx md) (sr_X3_readOrder tf ch) (sr_X6_reads mf mx md) := by
  unfold sr_X3_readOrder sw0_X3_readOrder sr_X6_reads sw0_X6_reads sw2_X6_reads gv90_9_X3_readOrder gv74_7_X3_readOrder xv77_8_X3_readOrder gv64_6_X3_readOrder gv90_5_X3_readOrder xv40_4_X3_readOrder gv37_3_X3_readOrder xv32_2_X3_readOrder xv5_1_X3_readOrder
  unfold gv97_7_X6_reads gv78_5_X6_reads gv78_6_X6_reads gv70_4_X6_reads gv97_3_X6_reads gv54_1_X6_reads gv54_2_X6_reads
  obtain ⟨h0, h1, h2, h3, h4, h5⟩ := id h
  rcases kd hT h with ⟨k1, k2⟩ | ⟨k0, k1, k2, k3, k4⟩
  · rw [if_pos k1, if_pos k1, if_pos k2, if_pos k2, if_pos k2]
    exact ⟨p, ⟨by rw [upd_ne (by omega), upd_ne (by omega)]; exact h0, by rw [upd_ne (by omega), upd_ne (by omega)]; exact h1, by rw [upd_ne (by omega)]; exact h2, by rw [upd_ne (by omega)]; exact h3, h4, h5⟩, Or.inl ⟨rfl, rfl⟩⟩
  · rw [if_neg k1, if_neg k1, if_neg k2, if_neg k2, if_neg k2, k3]
    rw [k3] at k4
    generalize hC : sr_X3_characterHere tf ch = C at k4 ⊢
    have hB : TS t (p + 1) (upd (upd (upd tf 2 C) 4 0) 1 (tf 1 + 1)) (upd (upd mf 15 C) 10 (mf 10 + 1)) :=
      ⟨by rw [upd_ne (by omega), upd_ne (by omega), upd_ne (by omega)]; exact h0, by rw [upd_eq, h1, nI_1], by rw [upd_ne (by omega), upd_ne (by omega)]; exact h2, by rw [upd_eq, h3, nI_1], by omega, h5⟩
    have B2 : upd (upd (upd tf 2 C) 4 0) 1 (tf 1 + 1) 2 = C := by rw [upd_ne (by omega), upd_ne (by omega), upd_eq]
    have B4 : upd (upd (upd tf 2 C) 4 0) 1 (tf 1 + 1) 4 = 0 := by rw [upd_ne (by omega), upd_eq]
    have M15 : upd (upd mf 15 C) 10 (mf 10 + 1) 15 = C := by rw [upd_ne (by omega), upd_eq]
    generalize upd (upd (upd tf 2 C) 4 0) 1 (tf 1 + 1) = B at hB B2 B4 ⊢
    generalize upd (upd mf 15 C) 10 (mf 10 + 1) = M at hB M15 ⊢
    obtain ⟨a, v, r1, r2, r3, r4, r5, r6⟩ := rn_rel (w := 0) (md := md) hT hB
    have N15 : (nbX M mx md 0).1 15 = C := (nbX_ne (by omega)).trans M15
    have G2 : sw0_X3_readNumber B ch 2 = C := (r4 2 (by omega)).trans B2
    have G4 : sw0_X3_readNumber B ch 4 = 0 := (r4 4 (by omega)).trans B4
    generalize sw0_X3_readNumber B ch = G at r1 r4 G2 G4 ⊢
    generalize sr_X3_readNumber B ch = n1 at r6 ⊢
    generalize sr_X6_numbered M mx md 0 = s1 at r6 ⊢
    generalize (nbX M mx md 0).1 = N at r1 N15 ⊢
    generalize (nbX M mx md 0).2 = D at r2 r3 ⊢
    have hH : TS t (p + 1 + a) (upd G 3 n1) N := by
      obtain ⟨g0, g1, g2, g3, g4, g5⟩ := r1
      exact ⟨by rw [upd_ne (by omega)]; exact g0, by rw [upd_ne (by omega)]; exact g1, g2, g3, g4, g5⟩
    rcases r6 with ⟨e1, e2⟩ | ⟨e1, e2⟩
    · subst e1 e2
      simp only [if_neg (show ¬ (0 : Int32) ≤ -1 by decide), if_pos (show (0 : Int32) = 0 from rfl)]
      exact ⟨_, hH, Or.inl ⟨rfl, rfl⟩⟩
    · subst e1 e2
      simp only [if_pos (nI_pos' (n := v) (by omega)), if_neg (show ¬ (1 : Int32) = 0 by decide)]
      rw [G2, G4]
      have H2 : upd G 3 (nI v) 2 = C := by rw [upd_ne (by omega)]; exact G2
      have H3 : upd G 3 (nI v) 3 = nI v := upd_eq
      generalize upd G 3 (nI v) = H at hH H2 H3 ⊢
      by_cases c98 : C = 98
      · simp only [if_pos c98, if_pos (k4.mp c98)]
        obtain ⟨b, s1, s2, s3⟩ := sk_rel (c := 44) (by decide) hT hH
        have S2 : sw0_X3_skip H ch 44 2 = C := (s3 2 (by omega)).trans H2
        have S3 : sw0_X3_skip H ch 44 3 = nI v := (s3 3 (by omega)).trans H3
        have S15 : sw0_X6_sign N mx 44 15 = C := (by show upd N 10 _ 15 = C; rw [upd_ne (by omega)]; exact N15)
        rw [s2]
        generalize sr_X6_sign N mx 44 = y1
        generalize sw0_X3_skip H ch 44 = J at s1 s3 S2 S3 ⊢
        generalize sw0_X6_sign N mx 44 = O at s1 S15 ⊢
        by_cases z1 : y1 = 0
        · simp only [if_pos z1]
          exact ⟨_, s1, Or.inl ⟨rfl, rfl⟩⟩
        · simp only [if_neg z1]
          obtain ⟨a2, v2, q1, q2, q3, q4, q5, q6⟩ := rn_rel (w := 1) (md := D) hT s1
          have P15 : (nbX O mx D 1).1 15 = C := (nbX_ne (by omega)).trans S15
          have L2 : sw0_X3_readNumber J ch 2 = C := (q4 2 (by omega)).trans S2
          have L3 : sw0_X3_readNumber J ch 3 = nI v := (q4 3 (by omega)).trans S3
          generalize sw0_X3_readNumber J ch = L at q1 q4 L2 L3 ⊢
          generalize sr_X3_readNumber J ch = n2 at q6 ⊢
          generalize sr_X6_numbered O mx D 1 = y2 at q6 ⊢
          have D0 : (nbX O mx D 1).2 0 = nI v := (q3 0 (by omega)).trans r2
          generalize (nbX O mx D 1).1 = P at q1 P15 ⊢
          generalize (nbX O mx D 1).2 = D2 at q2 q3 D0 ⊢
          have hK : TS t (p + 1 + a + b + a2) (upd L 4 n2) P := by
            obtain ⟨g0, g1, g2, g3, g4, g5⟩ := q1
            exact ⟨by rw [upd_ne (by omega)]; exact g0, by rw [upd_ne (by omega)]; exact g1, g2, g3, g4, g5⟩
          rcases q6 with ⟨e1, e2⟩ | ⟨e1, e2⟩
          · subst e1 e2
            simp only [if_pos (show (-1 : Int32) < 0 by decide), if_pos (show (0 : Int32) = 0 from rfl)]
            exact ⟨_, hK, Or.inl ⟨rfl, rfl⟩⟩
          · subst e1 e2
            simp only [if_neg (nI_pos (n := v2) (by omega)), if_neg (show ¬ (1 : Int32) = 0 by decide)]
            have K2 : upd L 4 (nI v2) 2 = C := by rw [upd_ne (by omega)]; exact L2
            have K3 : upd L 4 (nI v2) 3 = nI v := by rw [upd_ne (by omega)]; exact L3
            have K4 : upd L 4 (nI v2) 4 = nI v2 := upd_eq
            generalize upd L 4 (nI v2) = K at hK K2 K3 K4 ⊢
            obtain ⟨b2, u1, u2, u3⟩ := sk_rel (c := 59) (by decide) hT hK
            have U15 : sw0_X6_sign P mx 59 15 = C := (by show upd P 10 _ 15 = C; rw [upd_ne (by omega)]; exact P15)
            rw [u2]
            generalize sr_X6_sign P mx 59 = y3
            refine ⟨_, u1, ?_⟩
            by_cases z3 : y3 = 0
            · rw [if_pos z3]; exact Or.inl ⟨rfl, rfl⟩
            · rw [if_neg z3]
              exact Or.inr ⟨by decide, by decide, by omega, by rw [u3 2 (by omega), K2, U15], by rw [u3 3 (by omega), K3, D0], fun _ => by rw [u3 4 (by omega), K4, q2]⟩
      · have c982 : ¬ sr_X6_numbersOf C = 2 := fun e => c98 (k4.mpr e)
        simp only [if_neg c98, if_neg c982, if_neg (show ¬ (0 : Int32) < 0 by decide)]
        obtain ⟨b, s1, s2, s3⟩ := sk_rel (c := 59) (by decide) hT hH
        have U15 : sw0_X6_sign N mx 59 15 = C := (by show upd N 10 _ 15 = C; rw [upd_ne (by omega)]; exact N15)
        rw [s2]
        generalize sr_X6_sign N mx 59 = y1
        refine ⟨_, s1, ?_⟩
        by_cases z1 : y1 = 0
        · rw [if_pos z1]; exact Or.inl ⟨rfl, rfl⟩
        · rw [if_neg z1]
          exact Or.inr ⟨by decide, by decide, by omega, by rw [s3 2 (by omega), H2, U15], by rw [s3 3 (by omega), H3, r2], fun e => absurd ((s3 2 (by omega)).trans H2 ▸ e) c98⟩
/-- an order's call -/
theorem cl_rel {T : Nat} {tf f se to re kf mf ms md : Nat → Int32} (hT : T ≤ 9999) (h : LR T f se to re ms) (h2 : tf 2 = mf 15) (h3 : tf 3 = md 0) (h4 : tf 2 = 98 → tf 4 = md 1) : sr_X2_obey tf f se to re kf = sr_X6_calls mf ms md ∧ (∃ U : Nat, U ≤ 9999 ∧ LR U (sw2_X2_obey tf f se to re kf) se (sw4_X2_obey tf f se to re kf) (sw5_X2_obey tf f se to re kf) (sw1_X6_calls mf ms md)) := by
  unfold sr_X2_obey sr_X6_calls sw2_X2_obey sw4_X2_obey sw5_X2_obey sw1_X6_calls
  rw [← h2, ← h3]
  by_cases c1 : tf 2 = 98
  · simp only [if_pos c1]
    rw [← h4 c1]
    have k := birds_rel (p := tf 3) (q := tf 4) h
    refine ⟨k.1, T, hT, ?_⟩
    unfold gv102_1_X2_obey gv114_2_X6_calls
    rw [← h3, ← h4 c1]
    exact k.2.1
  · simp only [if_neg c1]
    by_cases c2 : tf 2 = 103
    · simp only [if_pos c2]
      have k := gates_rel (p := tf 3) h
      refine ⟨k.1, T, hT, ?_⟩
      unfold gv61_2_X2_obey gv63_5_X6_calls
      rw [← h3]
      exact k.2.1
    · simp only [if_neg c2]
      by_cases c3 : tf 2 = 112
      · simp only [if_pos c3]
        have k := pump_rel (p := tf 3) h
        refine ⟨k.1, T, hT, ?_⟩
        unfold gv79_3_X2_obey gv85_8_X6_calls
        rw [← h3]
        exact k.2.1
      · simp only [if_neg c3]
        by_cases c4 : tf 2 = 113
        · simp only [if_pos c4]
          have k := pump_rel (p := -(tf 3)) h
          refine ⟨k.1, T, hT, ?_⟩
          unfold gv89_4_X2_obey gv97_11_X6_calls
          rw [← h3]
          exact k.2.1
        · simp only [if_neg c4]
          by_cases c5 : tf 2 = 116
          · simp only [if_pos c5]
            have k := turbines_rel (p := tf 3) h
            refine ⟨k.1, T, hT, ?_⟩
            unfold gv70_5_X2_obey gv74_14_X6_calls
            rw [← h3]
            exact k.2.1
          · simp only [if_neg c5]
            have k := run_rel (kf := kf) (mf := mf) (p := tf 3) hT h
            refine ⟨k.1, ?_⟩
            unfold gv112_6_X2_obey gv112_7_X2_obey gv112_8_X2_obey gv125_17_X6_calls
            rw [← h3]
            exact k.2.1
