/-! answers: the class's and the model's -/
theorem in_if {α : Type} {v a b : Int32} (A B : α) : (if v < a then A else if v ≤ b then B else A) = if sr_X6_in v a b = 0 then A else B := by
  by_cases c1 : v < a
  · rw [if_pos c1, if_pos (in_no (Or.inl c1))]
  · rw [if_neg c1]
    by_cases c2 : v ≤ b
    · rw [if_pos c2, if_neg (in_yes c1 c2)]
    · rw [if_neg c2, if_pos (in_no (Or.inr (Int32.not_le.mp c2)))]
theorem q_sea (p : Int32) : sr_X5_sea p = sr_X6_sea p := by
  unfold sr_X5_sea sr_X6_sea
  rw [in_if, rel_sea]
theorem q_now {T : Nat} {f se to re ms : Nat → Int32} (h : LR T f se to re ms) (p : Int32) : sr_X5_now f p = sr_X6_now ms p := by
  unfold sr_X5_now sr_X6_now
  rw [bird_rel (h.2.1 0 (by omega)) (h.2.1 6 (by omega)) (h.2.1 7 (by omega)), head_rel (h.2.1 0 (by omega)) (h.2.1 1 (by omega)) (h.2.1 2 (by omega)), ← LR_level h, rel_sea, rel_tide, h.2.1 0 (by omega), h.2.1 1 (by omega), h.2.1 2 (by omega), h.2.1 3 (by omega), h.2.1 4 (by omega), h.2.1 5 (by omega)]
theorem days {T : Nat} {f : Nat → Int32} (hT : T < 2 ^ 30) (h : f 0 = nI T) : sr_X1_lastDay f = nI (nd T) - 1 ∧ sr_X1_firstDay f = nI (nd T - nr T) := by
  have e : sr_X1_lastDay f = nI (nd T) - 1 := by
    unfold sr_X1_lastDay sr_J9_floorDiv_7cf53
    rw [h]
    by_cases c : T = 0
    · subst c
      decide
    · obtain ⟨U, rfl⟩ : ∃ U, T = U + 1 := ⟨T - 1, by omega⟩
      rw [nI_pred, show (144 : Int32) = nI 144 from rfl, if_pos ((ag_xor_sign (nI U) (by decide)).mpr (nI_pos' (by omega))), pk_div (by omega) (by decide) (by decide), show nd (U + 1) = U / 144 + 1 by unfold nd; omega, nI_pred]
  refine ⟨e, ?_⟩
  unfold sr_X1_firstDay
  rw [e, mx0]
  have b : nd T < 2 ^ 29 := by unfold nd; omega
  have t0 : (nI (nd T) - 1 - 10 + 1).toInt = (nd T : Int) - 1 - 10 + 1 := i_add (b := 1) (i_sub (b := 10) (i_sub (b := 1) (nI_toInt (by omega)) rfl (by omega) (by omega)) rfl (by omega) (by omega)) rfl (by omega) (by omega)
  by_cases c : nd T ≤ 10
  · have n1 : nr T = nd T := by unfold nr; rw [if_pos c]
    rw [if_pos (by rw [Int32.le_iff_toInt_le, t0, show (0 : Int32).toInt = 0 from rfl]; omega), n1, Nat.sub_self]
    rfl
  · have n1 : nr T = 10 := by unfold nr; rw [if_neg c]
    rw [if_neg (by rw [Int32.le_iff_toInt_le, t0, show (0 : Int32).toInt = 0 from rfl]; omega), n1]
    exact i_nat t0 (by omega) (by omega)
theorem q_record {T : Nat} {f se to re ms : Nat → Int32} (hT : T ≤ 9999) (h : LR T f se to re ms) (p q : Int32) : sr_X5_record f re p q = sr_X6_record ms p q (nr T) := by
  unfold sr_X5_record sr_X6_record
  obtain ⟨d1, d2⟩ := days (by omega) h.1.1
  have hn := nr_le T
  have hb : nd T ≤ 70 := by unfold nd; omega
  by_cases c1 : p < 0
  · rw [if_pos c1, if_pos c1]
  · rw [if_neg c1, if_neg c1]
    have e5 : q < 6 ↔ q ≤ 5 := by
      rw [Int32.lt_iff_toInt_lt, Int32.le_iff_toInt_le, show (6 : Int32).toInt = 6 from rfl, show (5 : Int32).toInt = 5 from rfl]
      omega
    have e6 : ∀ A B : Int32, (if q < 6 then A else B) = if q ≤ 5 then A else B := fun A B => by
      by_cases c : q < 6
      · rw [if_pos c, if_pos (e5.mp c)]
      · rw [if_neg c, if_neg (fun e => c (e5.mpr e))]
    rw [e6, in_if]
    by_cases c2 : sr_X6_in q 0 5 = 0
    · rw [if_pos c2, if_pos c2]
    · rw [if_neg c2, if_neg c2, d1, d2]
      obtain ⟨q1, q2⟩ := in_nat (b := 5) (by decide) c2
      obtain ⟨j, hj, rfl⟩ := nI_of c1
      obtain ⟨r1, r2, r3⟩ := h.2.2.2.2.1
      have lastE : (nI j ≤ nI (nd T) - 1) ↔ j < nd T := by
        rw [Int32.le_iff_toInt_le, nI_toInt hj, i_sub (b := 1) (nI_toInt (n := nd T) (by omega)) rfl (by omega) (by omega)]
        omega
      by_cases c3 : nd T - nr T ≤ j
      · rw [if_neg (nI_nlt c3 hj)]
        by_cases c4 : j < nd T
        · rw [if_pos (lastE.mpr c4)]
          have e : rK ms (nI j) (nr T) 0 = j - (nd T - nr T) := rK_in hj _ _ (by omega) (by omega) ((r2 _ (by omega)).trans (congrArg nI (by omega))) (fun k _ k2 => ⟨_, r2 k (by omega), by omega, by omega⟩)
          have e2 : rof ms (nI j) (nr T) = nI (19 + 7 * (j - (nd T - nr T))) := by
            unfold rof
            rw [e, if_pos (by omega)]
          rw [e2, if_pos (nI_pos' (by omega)), e, rs_nI hj, Nat.add_assoc (19 + 7 * (j - (nd T - nr T))) 1, r3 _ (by omega) _ (by omega)]
          exact congrArg re (by omega)
        · have e : rK ms (nI j) (nr T) 0 = 0 + nr T := rK_out hj _ _ (fun k _ k2 => ⟨_, r2 k (by omega), by omega, by omega⟩)
          have e2 : rof ms (nI j) (nr T) = -1000000004 := by
            unfold rof
            rw [e, if_neg (by omega)]
          rw [if_neg (fun e => c4 (lastE.mp e)), e2, if_neg (by decide)]
      · have e : rK ms (nI j) (nr T) 0 = 0 + nr T := rK_out hj _ _ (fun k _ k2 => ⟨_, r2 k (by omega), by omega, by omega⟩)
        have e2 : rof ms (nI j) (nr T) = -1000000004 := by
          unfold rof
          rw [e, if_neg (by omega)]
        rw [if_pos (nI_lt (by omega) (by omega)), e2, if_neg (by decide)]
theorem q_next {T : Nat} {f se to re kf mf ms : Nat → Int32} (hT : T ≤ 9999) (h : LR T f se to re ms) (p : Int32) : sr_X5_next f se kf p = sr_X6_next mf ms p := by
  obtain ⟨⟨w3, w4, w5, w6, w7, w8, w9⟩, -⟩ := wg_rel (kf := kf) (mf := mf) (by omega) h.1 h.2.1 h.2.2.1
  unfold sr_X5_next sr_X6_next gv15_1_X5_next gv14_1_X6_next
  rw [w3, w4, w5, w6, w7, w8, w9]
  generalize sw0_X4_foresee kf f se (sr_X1_head f) = K
  by_cases c : sr_X6_in p 0 6 = 0
  · have n : ∀ a : Int32, ¬ sr_X6_in a 0 6 = 0 → ¬ p = a := fun a ha e => ha (e ▸ c)
    rw [if_pos c, if_neg (n 0 (by decide)), if_neg (n 1 (by decide)), if_neg (n 2 (by decide)), if_neg (n 3 (by decide)), if_neg (n 4 (by decide)), if_neg (n 5 (by decide)), if_neg (n 6 (by decide))]
  · rw [if_neg c]
    obtain ⟨j1, j2⟩ := in_nat (b := 6) (by decide) c
    generalize p.toNatClampNeg = j at j1 j2
    subst j1
    rcases j with _ | _ | _ | _ | _ | _ | _ | j
    · rfl
    · rfl
    · rfl
    · rfl
    · rfl
    · rfl
    · rfl
    · omega
theorem sub4 {a b c d : Nat} (ha : a ≤ 546064800) (hb : b ≤ 546064800) (hc : c ≤ 546064800) (hd : d ≤ 546064800) : (nI a - nI b) - (nI c - nI d) = (nI a - nI c) - (nI b - nI d) := by
  have e1 := pk_sub_toInt (a := a) (b := b) (by omega) (by omega)
  have e2 := pk_sub_toInt (a := c) (b := d) (by omega) (by omega)
  have e3 := pk_sub_toInt (a := a) (b := c) (by omega) (by omega)
  have e4 := pk_sub_toInt (a := b) (b := d) (by omega) (by omega)
  exact i_eq (i_sub e1 e2 (by omega) (by omega)) (i_sub e3 e4 (by omega) (by omega)) (by omega)
theorem q_would {T : Nat} {f se to re kf mf ms : Nat → Int32} (hT : T ≤ 9999) (h : LR T f se to re ms) (p q : Int32) : sr_X5_would f se to re kf p q = sr_X6_would mf ms p q := by
  unfold sr_X5_would sr_X6_would j102_0_X6_would gv43_1_X5_would gv43_2_X5_would gv36_2_X6_would
  have e3 : ∀ A B : Int32, (if p < 0 then A else if 300 < p then A else B) = if sr_X6_in p 0 300 = 0 then A else B := fun A B => by
    rw [← in_if]
    by_cases c : p < 0
    · rw [if_pos c, if_pos c]
    · rw [if_neg c, if_neg c]
      by_cases c2 : p ≤ 300
      · rw [if_pos c2, if_neg (Int32.not_lt.mpr c2)]
      · rw [if_neg c2, if_pos (Int32.not_le.mp c2)]
  rw [e3, in_if]
  by_cases c : sr_X6_in p 0 300 = 0
  · rw [if_pos c, if_pos c]
  · rw [if_neg c, if_neg c]
    by_cases c2 : sr_X6_in q 0 3 = 0
    · rw [if_pos c2, if_pos c2]
    · rw [if_neg c2, if_neg c2]
      obtain ⟨j1, j2⟩ := in_nat (b := 300) (by decide) c
      have k := lp_rel (se := se) p.toNatClampNeg T (f, to, re, kf) (mf, ms) (by omega) h
      generalize lp se p.toNatClampNeg (f, to, re, kf) = X at k ⊢
      generalize mtl p.toNatClampNeg (mf, ms) = Y at k ⊢
      have a1 : Y.2 11 = X.2.1 0 := k.2.2.2.1 0 (by omega)
      have a2 : Y.2 12 = X.2.1 1 := k.2.2.2.1 1 (by omega)
      have a3 : Y.2 2 = X.1 2 := k.2.1 2 (by omega)
      have a4 : ms 11 = to 0 := h.2.2.2.1 0 (by omega)
      have a5 : ms 12 = to 1 := h.2.2.2.1 1 (by omega)
      rw [LR_level k, a1, a2, a3, a4, a5]
theorem sa_rel (t lv : Int32) : ∀ n i : Nat, sa t lv n i = msa t lv n i
  | 0, _ => rfl
  | n + 1, i => by
    unfold sa msa
    rw [rel_sea, sa_rel t lv n (i + 1)]
theorem q_seaAt {T : Nat} {f se to re ms : Nat → Int32} (h : LR T f se to re ms) (p : Int32) : sr_X5_seaAt f p = sr_X6_seaAt ms p := by
  unfold sr_X5_seaAt sr_X6_seaAt
  rw [in_if, sa_rel, h.2.1 0 (by omega)]
/-- one number tried -/
theorem try_rel {T N k i : Nat} {f se to re kf mf ms : Nat → Int32} (hT : T + N ≤ 20000) (h : LR T f se to re ms) (hk : k = 3 ∨ k = 4) (hi : i ≤ 6 ∨ (k = 3 ∧ i ≤ 8)) : LR (T + N) (lp se N (upd f k (nI i), to, re, kf)).1 se (lp se N (upd f k (nI i), to, re, kf)).2.1 (lp se N (upd f k (nI i), to, re, kf)).2.2.1 (mbT N ms mf k i).2 := by
  unfold mbT
  refine lp_rel N T (upd f k (nI i), to, re, kf) (mf, upd ms k (nI i)) hT (LR_upd h (by omega) (by omega) ?_)
  obtain ⟨n0, n1, n2, n3, n4, n5⟩ := h.1
  refine ⟨?_, ?_, ?_, ?_, ?_, ?_⟩
  · rw [upd_ne (by omega)]; exact n0
  · rw [upd_ne (by omega)]; exact n1
  · rw [upd_ne (by omega)]; exact n2
  · by_cases c : k = 3
    · rw [c, upd_eq]; exact ⟨i, rfl, by omega⟩
    · rw [upd_ne (by omega)]; exact n3
  · by_cases c : k = 4
    · rw [c, upd_eq]; exact ⟨i, rfl, by omega⟩
    · rw [upd_ne (by omega)]; exact n4
  · rw [upd_ne (by omega)]; exact n5
theorem gain_rel {T N i : Nat} {f se to re kf mf ms : Nat → Int32} (hT : T + N ≤ 10300) (h : LR T f se to re ms) (hi : i ≤ 6) : sr_X5_gainWith f se to re kf (nI i) N = mbE N ms mf i := by
  have k := try_rel (k := 4) (kf := kf) (mf := mf) (i := i) (N := N) (by omega) h (Or.inr rfl) (Or.inl hi)
  unfold sr_X5_gainWith sr_X1_gain gv28_2_X5_gainWith mbE
  generalize mbT N ms mf 4 i = Y at k ⊢
  generalize lp se N (upd f 4 (nI i), to, re, kf) = X at k ⊢
  have a1 : Y.2 11 = X.2.1 0 := k.2.2.2.1 0 (by omega)
  have a2 : Y.2 12 = X.2.1 1 := k.2.2.2.1 1 (by omega)
  have a4 : ms 11 = to 0 := h.2.2.2.1 0 (by omega)
  have a5 : ms 12 = to 1 := h.2.2.2.1 1 (by omega)
  obtain ⟨-, -, -, -, -, ⟨x0, x1, x2⟩, ⟨y0, y1, y2⟩, -⟩ := k
  obtain ⟨-, -, -, -, -, ⟨z0, z1, z2⟩, ⟨v0, v1, v2⟩, -⟩ := h
  rw [a1, a2, a4, a5, x1, y1, z1, v1]
  have h2 : 53016 * (T + N) ≤ 53016 * 10300 := Nat.mul_le_mul_left _ hT
  have h3 : 53016 * T ≤ 53016 * 10300 := Nat.mul_le_mul_left _ (by omega)
  have h4 : 4800 * (T + N) ≤ 53016 * 10300 := Nat.mul_le_mul (by omega) hT
  have h5 : 4800 * T ≤ 53016 * 10300 := Nat.mul_le_mul (by omega) (by omega)
  exact sub4 (by omega) (by omega) (by omega) (by omega)
theorem miss_rel {T N i : Nat} {f se to re kf mf ms : Nat → Int32} {lv : Int32} (hT : T + N ≤ 10300) (h : LR T f se to re ms) (hi : i ≤ 8) : ag_abs (sr_X5_levelWith f se to re kf (nI i) N - lv) = mgE N ms mf lv i := by
  have k := try_rel (k := 3) (kf := kf) (mf := mf) (i := i) (N := N) (by omega) h (Or.inl rfl) (Or.inr ⟨rfl, hi⟩)
  unfold sr_X5_levelWith gv28_1_X5_levelWith mgE
  rw [size_abs, LR_level k]
theorem in_0 {v a b : Int32} : (sr_X6_in v a b = 0 ↔ v < a ∨ b < v) := by
  constructor
  · intro h
    by_cases c : v < a
    · exact Or.inl c
    · by_cases c2 : v ≤ b
      · exact absurd h (in_yes c c2)
      · exact Or.inr (Int32.not_le.mp c2)
  · exact in_no
theorem bestL_rel {T N : Nat} {f se to re ms : Nat → Int32} {p2 : Int32} (hT : T + N ≤ 10300) (h : LR T f se to re ms) : ∀ (n i : Nat) (x : bsu) (y : mbu), 1 ≤ i → i + n = 7 → x.1 = y.1 → x.2.1 = y.2.1 → (bestL f se to re p2 N n i x).1 = (mbL N ms n i y).1 ∧ (bestL f se to re p2 N n i x).2.1 = (mbL N ms n i y).2.1
  | 0, _, _, _, _, _, h1, h2 => ⟨h1, h2⟩
  | n + 1, i, x, y, hi, hn, h1, h2 => by
    unfold bestL mbL
    have g := gain_rel (kf := x.2.2.2.2.2.2) (mf := y.2.2) hT h (i := i) (by omega)
    have i0 : ¬ nI i = 0 := nI_ne0 (by omega) (by omega)
    refine bestL_rel hT h n (i + 1) _ _ (by omega) (by omega) ?_ ?_
    · unfold bestS mbS mbM
      dsimp only
      rw [g, h1, h2, if_neg i0]
      by_cases c : mbE N ms y.2.2 i ≤ y.2.1
      · rw [if_pos c, if_pos c, if_pos rfl]
      · rw [if_neg c, if_neg c, if_neg (by decide)]
    · unfold bestS mbS mbM
      dsimp only
      rw [g, h2, if_neg i0]
      by_cases c : mbE N ms y.2.2 i ≤ y.2.1
      · rw [if_pos c, if_pos c, if_pos rfl]
      · rw [if_neg c, if_neg c, if_neg (by decide)]
theorem gatesL_rel {T N : Nat} {f se to re ms : Nat → Int32} {p2 : Int32} (hT : T + N ≤ 10300) (h : LR T f se to re ms) : ∀ (n i : Nat) (x : bsu) (y : mbu), 1 ≤ i → i + n = 9 → x.1 = y.1 → x.2.1 = y.2.1 → (gatesForL f se to re p2 N n i x).1 = (mgL N ms p2 n i y).1 ∧ (gatesForL f se to re p2 N n i x).2.1 = (mgL N ms p2 n i y).2.1
  | 0, _, _, _, _, _, h1, h2 => ⟨h1, h2⟩
  | n + 1, i, x, y, hi, hn, h1, h2 => by
    unfold gatesForL mgL
    have g := miss_rel (kf := x.2.2.2.2.2.2) (mf := y.2.2) (lv := p2) hT h (i := i) (by omega)
    have i0 : ¬ nI i = 0 := nI_ne0 (by omega) (by omega)
    refine gatesL_rel hT h n (i + 1) _ _ (by omega) (by omega) ?_ ?_
    · unfold gatesForS mgS mgM
      dsimp only
      rw [g, h1, h2, if_neg i0]
      by_cases c : y.2.1 ≤ mgE N ms y.2.2 p2 i
      · rw [if_pos c, if_pos c, if_pos rfl]
      · rw [if_neg c, if_neg c, if_neg (by decide)]
    · unfold gatesForS mgS mgM
      dsimp only
      rw [g, h2, if_neg i0]
      by_cases c : y.2.1 ≤ mgE N ms y.2.2 p2 i
      · rw [if_pos c, if_pos c, if_pos rfl]
      · rw [if_neg c, if_neg c, if_neg (by decide)]
theorem q_best {T : Nat} {f se to re og ose oto ore kf mf ms : Nat → Int32} (hT : T ≤ 9999) (h : LR T f se to re ms) (p q : Int32) : sr_X5_best f se to re og ose oto ore kf p q = sr_X6_best mf ms p q := by
  unfold sr_X5_best sr_X6_best
  by_cases c1 : sr_X6_in p 1 150 = 0
  · rw [if_pos c1, if_pos ((in_0.mp c1).elim Or.inl (fun e => Or.inr (Or.inl e)))]
  · rw [if_neg c1]
    by_cases c2 : sr_X6_in q 0 1 = 0
    · rw [if_pos c2, if_pos ((in_0.mp c2).elim (fun e => Or.inr (Or.inr (Or.inl e))) (fun e => Or.inr (Or.inr (Or.inr (Int32.not_le.mpr e)))))]
    · have c3 : ¬ bestE p q := fun e => e.elim (fun e => c1 (in_no (Or.inl e))) (fun e => e.elim (fun e => c1 (in_no (Or.inr e))) (fun e => e.elim (fun e => c2 (in_no (Or.inl e))) (fun e => c2 (in_no (Or.inr (Int32.not_le.mp e))))))
      obtain ⟨j1, j2⟩ := in_is c1
      have j3 : p.toNatClampNeg ≤ 150 := by
        obtain ⟨k1, k2⟩ := ag_pos j1
        rw [k1] at j2
        exact Nat.not_lt.mp (fun e => j2 (nI_lt (a := 150) e k2))
      rw [if_neg c2, if_neg c3]
      unfold bestX mbX
      rw [if_neg c3]
      have g0 := gain_rel (kf := kf) (mf := mf) (N := p.toNatClampNeg) (by omega) h (i := 0) (by omega)
      have k := bestL_rel (p2 := q) (N := p.toNatClampNeg) (by omega) h 6 1 (best0 f se to re kf q p.toNatClampNeg) (mbS p.toNatClampNeg ms 0 (0, 0, mf)) (by omega) (by omega) (by unfold best0 mbS mbM; rfl) (by
        unfold best0 mbS mbM
        dsimp only
        rw [if_pos (show nI 0 = 0 from rfl), if_neg (by decide)]
        exact g0)
      rw [mbL]
      by_cases c4 : q = 0
      · rw [if_pos c4, if_pos c4]; exact k.1
      · rw [if_neg c4, if_neg c4]; exact k.2
theorem q_gatesFor {T : Nat} {f se to re og ose oto ore kf mf ms : Nat → Int32} (hT : T ≤ 9999) (h : LR T f se to re ms) (p q : Int32) : sr_X5_gatesFor f se to re og ose oto ore kf p q = sr_X6_gatesFor mf ms p q := by
  unfold sr_X5_gatesFor sr_X6_gatesFor
  by_cases c1 : sr_X6_in p 1 150 = 0
  · rw [if_pos c1, if_pos ((in_0.mp c1).elim Or.inl (fun e => Or.inr (Or.inl e)))]
  · rw [if_neg c1]
    by_cases c2 : sr_X6_in q (-400) 600 = 0
    · rw [if_pos c2, if_pos ((in_0.mp c2).elim (fun e => Or.inr (Or.inr (Or.inl e))) (fun e => Or.inr (Or.inr (Or.inr (Int32.not_le.mpr e)))))]
    · have c3 : ¬ gatesForE p q := fun e => e.elim (fun e => c1 (in_no (Or.inl e))) (fun e => e.elim (fun e => c1 (in_no (Or.inr e))) (fun e => e.elim (fun e => c2 (in_no (Or.inl e))) (fun e => c2 (in_no (Or.inr (Int32.not_le.mp e))))))
      obtain ⟨j1, j2⟩ := in_is c1
      have j3 : p.toNatClampNeg ≤ 150 := by
        obtain ⟨k1, k2⟩ := ag_pos j1
        rw [k1] at j2
        exact Nat.not_lt.mp (fun e => j2 (nI_lt (a := 150) e k2))
      rw [if_neg c2, if_neg c3]
      unfold gatesForX mgX
      rw [if_neg c3]
      have g0 := miss_rel (kf := kf) (mf := mf) (lv := q) (N := p.toNatClampNeg) (by omega) h (i := 0) (by omega)
      have k := gatesL_rel (p2 := q) (N := p.toNatClampNeg) (by omega) h 8 1 (gatesFor0 f se to re kf q p.toNatClampNeg) (mgS p.toNatClampNeg ms q 0 (0, 0, mf)) (by omega) (by omega) (by unfold gatesFor0 mgS mgM; rfl) (by
        unfold gatesFor0 mgS mgM
        dsimp only
        rw [if_pos (show nI 0 = 0 from rfl), if_neg (by decide)]
        exact g0)
      rw [mgL]
      exact k.1
/-- the best day -/
def bdI (a i : Nat) (ms : Nat → Int32) (x : Int32 × Int32) (y : Int32) : Prop := (i = 0 ∧ x = (-1000000004, -1) ∧ y = -1000000004) ∨ (∃ b q : Nat, b < i ∧ i ≤ 10 ∧ y = nI (19 + 7 * b) ∧ x.1 = nI (a + b) ∧ x.2 = ms (19 + 7 * b + 1))
theorem bd_rel {T : Nat} {f se to re ms : Nat → Int32} (hT : T ≤ 9999) (h : LR T f se to re ms) : ∀ (n i : Nat) (x : Int32 × Int32) (y : Int32), i + n = nr T → bdI (nd T - nr T) i ms x y → bdI (nd T - nr T) (nr T) ms (bdL re (nd T - nr T) n i x) (mbd ms n i y)
  | 0, i, x, y, hi, hI => by
    have e : i = nr T := by omega
    rw [e] at hI
    exact hI
  | n + 1, i, x, y, hi, hI => by
    have hn := nr_le T
    have hb : nd T ≤ 70 := by unfold nd; omega
    have hr := h.2.2.2.2.1
    have m := hr.2.2 i (by omega) 0 (by omega)
    have e1 : re (rs (nI (nd T - nr T + i)) + 0) = ms (19 + 7 * i + 1) := by
      rw [rs_nI (by omega)]
      exact m.symm
    obtain ⟨q, q1, q2⟩ := h.2.2.2.2.2.2.2 (nd T - nr T + i) (by omega) (by omega)
    have q3 : ms (19 + 7 * i + 1) = nI q := m.trans q1
    unfold bdL mbd
    rw [e1]
    refine bd_rel hT h n (i + 1) _ _ (by omega) ?_
    rcases hI with ⟨z1, z2, z3⟩ | ⟨b, w, b1, b2, b3, b4, b5⟩
    · subst z1 z2 z3
      rw [if_pos (show (-1000000004 : Int32) < 0 by decide)]
      have c : ¬ ms (19 + 7 * 0 + 1) ≤ -1 := by
        rw [q3, Int32.le_iff_toInt_le, nI_toInt (by omega), show (-1 : Int32).toInt = -1 from rfl]
        omega
      dsimp only
      rw [if_neg c, if_neg c]
      exact Or.inr ⟨0, 0, by omega, by omega, rfl, rfl, rfl⟩
    · have c0 : ¬ y < 0 := by rw [b3]; exact nI_pos (by omega)
      have c1 : y.toNatClampNeg = 19 + 7 * b := by rw [b3, nI_clamp (by omega)]
      rw [if_neg c0, c1, b5]
      by_cases c : ms (19 + 7 * i + 1) ≤ ms (19 + 7 * b + 1)
      · rw [if_pos c, if_pos c, if_pos c]
        exact Or.inr ⟨b, 0, by omega, by omega, b3, b4, rfl⟩
      · rw [if_neg c, if_neg c, if_neg c]
        exact Or.inr ⟨i, 0, by omega, by omega, mx_rec i, rfl, rfl⟩
theorem q_bestDay {T : Nat} {f se to re ms : Nat → Int32} (hT : T ≤ 9999) (h : LR T f se to re ms) : (bdL re (nd T - nr T) (nr T) 0 ((-1000000004), (-1))).1 = sr_X6_bestDay ms (nr T) := by
  have k := bd_rel hT h (nr T) 0 ((-1000000004), (-1)) (-1000000004) (by omega) (Or.inl ⟨rfl, rfl, rfl⟩)
  have hr := h.2.2.2.2.1
  unfold sr_X6_bestDay
  generalize bdL re (nd T - nr T) (nr T) 0 ((-1000000004), (-1)) = X at k ⊢
  generalize mbd ms (nr T) 0 (-1000000004) = Y at k ⊢
  rcases k with ⟨z1, z2, z3⟩ | ⟨b, w, b1, b2, b3, b4, b5⟩
  · rw [z2, z3, if_neg (by decide)]
  · rw [b3, if_pos (nI_pos' (by omega)), nI_clamp (by omega), b4, hr.2.1 b b1]
/-- the share of energy: a number for both -/
theorem q_share {T : Nat} {f se to re ms : Nat → Int32} (hT : T ≤ 9999) (h : LR T f se to re ms) : ∃ E F : Nat, (0 < to 0 → fbv E F (FP.fdiv (FP.i2f (to 1)) (FP.i2f (to 0)))) ∧ (¬ ms 11 = 0 → fbv E F (FP.fdiv (FP.i2f (ms 12)) (FP.i2f (ms 11)))) ∧ (ms 11 = 0 → vf_n32 (FP.fdiv (FP.i2f (ms 12)) (FP.i2f 1))) ∧ sr_X5_share to E F = sr_X6_share ms E F := by
  have a4 : ms 11 = to 0 := h.2.2.2.1 0 (by omega)
  have a5 : ms 12 = to 1 := h.2.2.2.1 1 (by omega)
  obtain ⟨-, -, -, -, -, ⟨x0, x1, x2⟩, ⟨y0, y1, y2⟩, -⟩ := h
  have h2 : 53016 * T ≤ 53016 * 9999 := Nat.mul_le_mul_left _ hT
  have h4 : 4800 * T ≤ 53016 * 9999 := Nat.mul_le_mul (by omega) hT
  rw [a4, a5, x1, y1]
  obtain ⟨E1, F1, k1⟩ := fb_quot (a := y0) (b := 1) (by omega) (by omega) (by omega)
  unfold sr_X5_share sr_X6_share
  rw [a4, x1]
  by_cases c : x0 = 0
  · subst c
    refine ⟨0, 0, fun e => absurd e (by decide), fun e => absurd rfl e, fun _ => fb_isn k1, ?_⟩
    rw [if_neg (show ¬ (0 : Int32) < nI 0 by decide), if_pos (show nI 0 = 0 from rfl)]
  · obtain ⟨E, F, k⟩ := fb_quot (a := y0) (b := x0) (by omega) (by omega) (by omega)
    have c1 : ¬ nI x0 = 0 := nI_ne0 (by omega) (by omega)
    have c2 : 0 < nI x0 := nI_lt (a := 0) (by omega) (by omega)
    exact ⟨E, F, fun _ => k, fun _ => k, fun e => absurd e c1, by rw [if_pos c2, if_neg c1]⟩
