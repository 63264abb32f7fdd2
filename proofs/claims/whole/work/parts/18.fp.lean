/-! numbers with a point: what the float of a normal positive number does -/
def fb (E T : Nat) : UInt32 := .ofNat (E * 8388608 + T)
theorem fb_nat {E T : Nat} (h2 : E ≤ 254) (hT : T < 8388608) : (fb E T).toNat = E * 8388608 + T := by
  unfold fb; rw [UInt32.toNat_ofNat']; exact Nat.mod_eq_of_lt (by omega)
theorem fb_n32 {E T : Nat} (h2 : E ≤ 254) (hT : T < 8388608) : vf_n32 (fb E T) := by
  unfold vf_n32; rw [UInt32.le_iff_toNat_le, UInt32.toNat_and]; refine Nat.le_trans Nat.and_le_left ?_
  rw [fb_nat h2 hT]; show _ ≤ 2139095040; omega
theorem fb_dec {E T : Nat} (h1 : 1 ≤ E) (h2 : E ≤ 254) (hT : T < 8388608) : FP.Core.decode FP.Core.b32 (fb E T).toNat = .fin false (8388608 + T) ((E : Int) - 150) := by
  rw [fb_nat h2 hT]
  have e1 : FP.Core.fieldE FP.Core.b32 (E * 8388608 + T) = E := by
    show (E * 8388608 + T) / 8388608 % 256 = E; omega
  have e2 : FP.Core.fieldT FP.Core.b32 (E * 8388608 + T) = T := by
    show (E * 8388608 + T) % 8388608 = T; omega
  have e3 : FP.Core.fieldS FP.Core.b32 (E * 8388608 + T) = false := by
    show ((E * 8388608 + T) / 8388608 / 256 % 2 == 1) = false
    rw [show (E * 8388608 + T) / 8388608 / 256 % 2 = 0 by omega]; rfl
  unfold FP.Core.decode
  rw [e1, e2, e3, if_neg (by show ¬ E = 255; omega), if_neg (by omega)]
  show FP.Core.Datum.fin false (8388608 + T) (-149 + ((E : Int) - 1)) = _
  congr 1; omega
theorem fb_enc {E T : Nat} (h1 : 1 ≤ E) : UInt32.ofNat (FP.Core.encode FP.Core.b32 (.fin false (8388608 + T) ((E : Int) - 150))) = fb E T := by
  unfold FP.Core.encode fb
  show UInt32.ofNat (if 8388608 + T < 8388608 then _ else FP.Core.assemble FP.Core.b32 false ((((E : Int) - 150 - -149).toNat) + 1) (8388608 + T - 8388608)) = _
  rw [if_neg (by omega), show ((E : Int) - 150 - -149).toNat + 1 = E by omega, show 8388608 + T - 8388608 = T by omega]
  show UInt32.ofNat ((0 * 256 + E) * 8388608 + T) = _
  rw [show (0 * 256 + E) * 8388608 + T = E * 8388608 + T by omega]
theorem fb_encs {E T c : Nat} {q : Int} (h1 : 1 ≤ E) (hc : c = 8388608 + T) (hq : q = (E : Int) - 150) : UInt32.ofNat (FP.Core.encode FP.Core.b32 (.fin false c q)) = fb E T := by
  rw [hc, hq]; exact fb_enc h1
theorem fb_log {A k : Nat} (h1 : 2 ^ k ≤ A) (h2 : A < 2 ^ (k + 1)) : A.log2 = k := by
  have a1 : 2 ^ A.log2 ≤ A := Nat.log2_self_le (by have := Nat.two_pow_pos k; omega)
  have a2 : A < 2 ^ (A.log2 + 1) := Nat.lt_log2_self
  have b1 := (Nat.pow_lt_pow_iff_right (a := 2) (by decide)).mp (Nat.lt_of_le_of_lt a1 h2)
  have b2 := (Nat.pow_lt_pow_iff_right (a := 2) (by decide)).mp (Nat.lt_of_le_of_lt h1 a2)
  omega
theorem fb_settle {c : Nat} {q : Int} (h1 : 8388608 ≤ c) (h2 : c ≤ 16777216) (hq1 : -149 ≤ q) (hq2 : q ≤ 103) :
    ∃ E T : Nat, 1 ≤ E ∧ (E : Int) ≤ q + 151 ∧ (E : Int) ≥ q + 150 ∧ T < 8388608 ∧ UInt32.ofNat (FP.Core.encode FP.Core.b32 (FP.Core.settle FP.Core.b32 false c q)) = fb E T := by
  unfold FP.Core.settle
  show ∃ E T : Nat, 1 ≤ E ∧ _ ∧ _ ∧ T < 8388608 ∧ UInt32.ofNat (FP.Core.encode FP.Core.b32 (if c < 16777216 then _ else FP.Core.bound FP.Core.b32 false 8388608 (q + 1))) = fb E T
  by_cases hc : c < 16777216
  · rw [if_pos hc]
    refine ⟨(q + 150).toNat, c - 8388608, by omega, by omega, by omega, by omega, ?_⟩
    unfold FP.Core.bound
    rw [if_pos (by show q ≤ 104; omega)]
    exact fb_encs (by omega) (by omega) (by omega)
  · rw [if_neg hc]
    refine ⟨(q + 151).toNat, 0, by omega, by omega, by omega, by omega, ?_⟩
    unfold FP.Core.bound
    rw [if_pos (by show q + 1 ≤ 104; omega)]
    exact fb_encs (by omega) (by omega) (by omega)
theorem fb_near {A B M : Nat} (hB : 0 < B) (h1 : M * B ≤ A) (h2 : A < 2 * M * B) : M ≤ FP.Core.nearest A B ∧ FP.Core.nearest A B ≤ 2 * M := by
  have a1 : M ≤ A / B := (Nat.le_div_iff_mul_le hB).mpr h1
  have a2 : A / B < 2 * M := (Nat.div_lt_iff_lt_mul hB).mpr h2
  unfold FP.Core.nearest
  constructor
  · split
    · exact a1
    · split <;> omega
  · split
    · omega
    · split <;> omega
theorem fb_div {E T F U : Nat} (hE1 : 80 ≤ E) (hE2 : E ≤ 200) (hT : T < 8388608) (hF1 : 80 ≤ F) (hF2 : F ≤ 200) (hU : U < 8388608) (hd1 : (F : Int) ≤ E + 100) (hd2 : (E : Int) ≤ F + 100) :
    ∃ G V : Nat, 1 ≤ G ∧ (G : Int) ≤ E - F + 128 ∧ (G : Int) ≥ E - F + 126 ∧ V < 8388608 ∧ FP.fdiv (fb E T) (fb F U) = fb G V := by
  show ∃ G V : Nat, 1 ≤ G ∧ _ ∧ _ ∧ V < 8388608 ∧ UInt32.ofNat (FP.Core.encode FP.Core.b32 (FP.Core.quotient FP.Core.b32 (FP.Core.decode FP.Core.b32 (fb E T).toNat) (FP.Core.decode FP.Core.b32 (fb F U).toNat))) = fb G V
  rw [fb_dec (by omega) (by omega) hT, fb_dec (by omega) (by omega) hU]
  unfold FP.Core.quotient
  dsimp only
  rw [if_neg (by omega)]
  unfold FP.Core.roundRatio
  rw [if_neg (by omega)]
  have lA : (8388608 + T).log2 = 23 := fb_log (by omega) (by omega)
  have lB : (8388608 + U).log2 = 23 := fb_log (by omega) (by omega)
  have hl : FP.Core.leading (8388608 + T) (8388608 + U) = if U ≤ T then 0 else -1 := by
    unfold FP.Core.leading
    rw [lA, lB]
    show (if (8388608 + U) * 1 ≤ (8388608 + T) * 1 then (0 : Int) else 0 - 1) = _
    by_cases h : U ≤ T
    · rw [if_pos h, if_pos (by omega)]
    · rw [if_neg h, if_neg (by omega)]; rfl
  unfold FP.Core.quantum
  rw [hl]
  show ∃ G V : Nat, 1 ≤ G ∧ _ ∧ _ ∧ V < 8388608 ∧ UInt32.ofNat (FP.Core.encode FP.Core.b32 (FP.Core.roundAt FP.Core.b32 (false != false) (8388608 + T) (8388608 + U) ((E : Int) - 150 - ((F : Int) - 150)) (max (-149) ((if U ≤ T then (0 : Int) else -1) + ((E : Int) - 150 - ((F : Int) - 150)) - 23)))) = fb G V
  by_cases h : U ≤ T
  · rw [if_pos h, show max (-149 : Int) ((0 : Int) + ((E : Int) - 150 - ((F : Int) - 150)) - 23) = (E : Int) - F - 23 by omega]
    unfold FP.Core.roundAt FP.Core.unitsNum FP.Core.unitsDen
    rw [show ((E : Int) - 150 - ((F : Int) - 150) - ((E : Int) - F - 23)).toNat = 23 by omega, show ((E : Int) - F - 23 - ((E : Int) - 150 - ((F : Int) - 150))).toNat = 0 by omega]
    obtain ⟨n1, n2⟩ := fb_near (A := (8388608 + T) * 2 ^ 23) (B := (8388608 + U) * 2 ^ 0) (M := 8388608) (by omega) (by omega) (by omega)
    obtain ⟨G, V, g1, g2, g3, g4, g5⟩ := fb_settle (q := (E : Int) - F - 23) n1 n2 (by omega) (by omega)
    exact ⟨G, V, g1, by omega, by omega, g4, g5⟩
  · rw [if_neg h, show max (-149 : Int) ((-1 : Int) + ((E : Int) - 150 - ((F : Int) - 150)) - 23) = (E : Int) - F - 24 by omega]
    unfold FP.Core.roundAt FP.Core.unitsNum FP.Core.unitsDen
    rw [show ((E : Int) - 150 - ((F : Int) - 150) - ((E : Int) - F - 24)).toNat = 24 by omega, show ((E : Int) - F - 24 - ((E : Int) - 150 - ((F : Int) - 150))).toNat = 0 by omega]
    obtain ⟨n1, n2⟩ := fb_near (A := (8388608 + T) * 2 ^ 24) (B := (8388608 + U) * 2 ^ 0) (M := 8388608) (by omega) (by omega) (by omega)
    obtain ⟨G, V, g1, g2, g3, g4, g5⟩ := fb_settle (q := (E : Int) - F - 24) n1 n2 (by omega) (by omega)
    exact ⟨G, V, g1, by omega, by omega, g4, g5⟩
theorem fb_lead1 {A k : Nat} (h1 : 2 ^ k ≤ A) (h2 : A < 2 ^ (k + 1)) : FP.Core.leading A 1 = (k : Int) := by
  unfold FP.Core.leading
  rw [fb_log h1 h2, show Nat.log2 1 = 0 by decide]
  dsimp only
  rw [show ((k : Int) - ((0 : Nat) : Int)) = (k : Int) by omega, show ((k : Int)).toNat = k by omega, show (-(k : Int)).toNat = 0 by omega, if_pos (by omega)]
theorem fb_i2f {a : Nat} (h0 : 0 < a) (ha : a < 1073741824) :
    ∃ E T : Nat, 127 ≤ E ∧ E ≤ 158 ∧ T < 8388608 ∧ FP.i2f (nI a) = fb E T := by
  show ∃ E T : Nat, 127 ≤ E ∧ E ≤ 158 ∧ T < 8388608 ∧ UInt32.ofNat (FP.Core.encode FP.Core.b32 (FP.Core.round FP.Core.b32 (FP.Core.ofInt (nI a).toInt))) = fb E T
  rw [nI_toInt (by omega)]
  unfold FP.Core.ofInt
  rw [show decide ((a : Int) < 0) = false by exact decide_eq_false (by omega), show ((a : Int)).natAbs = a by omega]
  unfold FP.Core.round FP.Core.roundRatio
  dsimp only
  rw [if_neg (by omega)]
  have b1 : 2 ^ a.log2 ≤ a := Nat.log2_self_le (by omega)
  have b2 : a < 2 ^ (a.log2 + 1) := Nat.lt_log2_self
  have b3 : a.log2 < 30 := (Nat.pow_lt_pow_iff_right (a := 2) (by decide)).mp (Nat.lt_of_le_of_lt b1 ha)
  generalize a.log2 = k at b1 b2 b3
  unfold FP.Core.quantum
  rw [fb_lead1 b1 b2]
  show ∃ E T : Nat, 127 ≤ E ∧ E ≤ 158 ∧ T < 8388608 ∧ UInt32.ofNat (FP.Core.encode FP.Core.b32 (FP.Core.roundAt FP.Core.b32 false a 1 0 (max (-149) ((k : Int) + 0 - 23)))) = fb E T
  rw [show max (-149 : Int) ((k : Int) + 0 - 23) = (k : Int) - 23 by omega]
  unfold FP.Core.roundAt FP.Core.unitsNum FP.Core.unitsDen
  have hn : 8388608 ≤ FP.Core.nearest (a * 2 ^ ((0 : Int) - ((k : Int) - 23)).toNat) (1 * 2 ^ ((k : Int) - 23 - 0).toNat) ∧ FP.Core.nearest (a * 2 ^ ((0 : Int) - ((k : Int) - 23)).toNat) (1 * 2 ^ ((k : Int) - 23 - 0).toNat) ≤ 2 * 8388608 := by
    by_cases hk : k ≤ 23
    · rw [show ((0 : Int) - ((k : Int) - 23)).toNat = 23 - k by omega, show ((k : Int) - 23 - 0).toNat = 0 by omega]
      have e1 : 2 ^ k * 2 ^ (23 - k) = 8388608 := by rw [← Nat.pow_add, show k + (23 - k) = 23 by omega]
      have e2 : 2 ^ (k + 1) * 2 ^ (23 - k) = 16777216 := by rw [← Nat.pow_add, show k + 1 + (23 - k) = 24 by omega]
      have c1 := Nat.mul_le_mul_right (2 ^ (23 - k)) b1
      have c2 := Nat.mul_lt_mul_of_pos_right b2 (Nat.two_pow_pos (23 - k))
      rw [e1] at c1; rw [e2] at c2
      exact fb_near (by decide) (by omega) (by omega)
    · rw [show ((0 : Int) - ((k : Int) - 23)).toNat = 0 by omega, show ((k : Int) - 23 - 0).toNat = k - 23 by omega]
      have e1 : 8388608 * 2 ^ (k - 23) = 2 ^ k := by rw [show 8388608 = 2 ^ 23 by decide, ← Nat.pow_add, show 23 + (k - 23) = k by omega]
      have e2 : 2 * 8388608 * 2 ^ (k - 23) = 2 ^ (k + 1) := by rw [show 2 * 8388608 = 2 ^ 24 by decide, ← Nat.pow_add, show 24 + (k - 23) = k + 1 by omega]
      have hp := Nat.two_pow_pos (k - 23)
      exact fb_near (by omega) (by rw [Nat.one_mul, e1]; omega) (by rw [Nat.one_mul, e2]; omega)
  obtain ⟨E, T, g1, g2, g3, g4, g5⟩ := fb_settle (q := (k : Int) - 23) hn.1 hn.2 (by omega) (by omega)
  exact ⟨E, T, by omega, by omega, g4, g5⟩
theorem fb_round {E c : Nat} {A B : Nat} {x : Int} (hE1 : 1 ≤ E) (hE2 : E ≤ 254) (hc : c < 8388608) (hq : max (-149 : Int) x = (E : Int) - 150) (hn : FP.Core.nearest A B = 8388608 + c) :
    UInt32.ofNat (FP.Core.encode FP.Core.b32 (FP.Core.settle FP.Core.b32 false (FP.Core.nearest A B) (max (-149) x))) = fb E c := by
  rw [hq, hn]
  unfold FP.Core.settle
  rw [if_pos (by show 8388608 + c < 16777216; omega)]
  unfold FP.Core.bound
  rw [if_pos (by show (E : Int) - 150 ≤ 104; omega)]
  exact fb_enc hE1
theorem fb_exact {c d : Nat} (hd : 0 < d) : FP.Core.nearest (c * d) d = c := by
  unfold FP.Core.nearest
  rw [Nat.mul_mod_left, Nat.mul_div_cancel _ hd, if_pos (by omega)]
theorem fb_mulp {E T k : Nat} (hE1 : 1 ≤ E) (hE2 : E + k ≤ 254) (hk : k ≤ 100) (hT : T < 8388608) : FP.fmul (fb E T) (fb (127 + k) 0) = fb (E + k) T := by
  show UInt32.ofNat (FP.Core.encode FP.Core.b32 (FP.Core.round FP.Core.b32 (FP.Core.exactProduct (FP.Core.decode FP.Core.b32 (fb E T).toNat) (FP.Core.decode FP.Core.b32 (fb (127 + k) 0).toNat)))) = _
  rw [fb_dec (by omega) (by omega) hT, fb_dec (by omega) (by omega) (by decide)]
  unfold FP.Core.exactProduct FP.Core.round FP.Core.roundRatio
  dsimp only
  rw [if_neg (by omega)]
  have hl := fb_lead1 (A := (8388608 + T) * (8388608 + 0)) (k := 46) (by omega) (by omega)
  unfold FP.Core.quantum
  rw [hl]
  unfold FP.Core.roundAt
  refine fb_round (x := ((46 : Nat) : Int) + ((E : Int) - 150 + (((127 + k : Nat) : Int) - 150)) - 23) (by omega) (by omega) hT (by omega) ?_
  show FP.Core.nearest (FP.Core.unitsNum _ _ (max (-149) (((46 : Nat) : Int) + ((E : Int) - 150 + (((127 + k : Nat) : Int) - 150)) - 23))) (FP.Core.unitsDen _ _ (max (-149) (((46 : Nat) : Int) + ((E : Int) - 150 + (((127 + k : Nat) : Int) - 150)) - 23))) = _
  rw [show max (-149 : Int) (((46 : Nat) : Int) + ((E : Int) - 150 + (((127 + k : Nat) : Int) - 150)) - 23) = (E : Int) + k - 150 by omega]
  unfold FP.Core.unitsNum FP.Core.unitsDen
  rw [show ((E : Int) - 150 + (((127 + k : Nat) : Int) - 150) - ((E : Int) + k - 150)).toNat = 0 by omega, show ((E : Int) + k - 150 - ((E : Int) - 150 + (((127 + k : Nat) : Int) - 150))).toNat = 23 by omega]
  rw [show (8388608 + T) * (8388608 + 0) * 2 ^ 0 = (8388608 + T) * 8388608 by omega, show 1 * 2 ^ 23 = 8388608 by decide]
  exact fb_exact (by decide)
theorem fb_half {E T : Nat} (hE1 : 2 ≤ E) (hE2 : E ≤ 254) (hT : T < 8388608) : FP.fdiv (fb E T) (fb 128 0) = fb (E - 1) T := by
  show UInt32.ofNat (FP.Core.encode FP.Core.b32 (FP.Core.quotient FP.Core.b32 (FP.Core.decode FP.Core.b32 (fb E T).toNat) (FP.Core.decode FP.Core.b32 (fb 128 0).toNat))) = _
  rw [fb_dec (by omega) (by omega) hT, fb_dec (by omega) (by omega) (by decide)]
  unfold FP.Core.quotient
  dsimp only
  rw [if_neg (by omega)]
  unfold FP.Core.roundRatio
  rw [if_neg (by omega)]
  have hl : FP.Core.leading (8388608 + T) (8388608 + 0) = 0 := by
    unfold FP.Core.leading
    rw [fb_log (A := 8388608 + T) (k := 23) (by omega) (by omega), fb_log (A := 8388608 + 0) (k := 23) (by omega) (by omega)]
    show (if (8388608 + 0) * 1 ≤ (8388608 + T) * 1 then (0 : Int) else 0 - 1) = 0
    rw [if_pos (by omega)]
  unfold FP.Core.quantum
  rw [hl]
  unfold FP.Core.roundAt
  refine fb_round (x := (0 : Int) + ((E : Int) - 150 - (((128 : Nat) : Int) - 150)) - 23) (by omega) (by omega) hT (by omega) ?_
  show FP.Core.nearest (FP.Core.unitsNum _ _ (max (-149) ((0 : Int) + ((E : Int) - 150 - (((128 : Nat) : Int) - 150)) - 23))) (FP.Core.unitsDen _ _ (max (-149) ((0 : Int) + ((E : Int) - 150 - (((128 : Nat) : Int) - 150)) - 23))) = _
  rw [show max (-149 : Int) ((0 : Int) + ((E : Int) - 150 - (((128 : Nat) : Int) - 150)) - 23) = (E : Int) - 151 by omega]
  unfold FP.Core.unitsNum FP.Core.unitsDen
  rw [show ((E : Int) - 150 - (((128 : Nat) : Int) - 150) - ((E : Int) - 151)).toNat = 23 by omega, show ((E : Int) - 151 - ((E : Int) - 150 - (((128 : Nat) : Int) - 150))).toNat = 0 by omega]
  rw [show (8388608 + T) * 2 ^ 23 = (8388608 + T) * 8388608 by omega, show (8388608 + 0) * 2 ^ 0 = 8388608 by decide]
  exact fb_exact (by decide)
theorem fb_ord (a b : Int) : compare a b = if a < b then Ordering.lt else if a = b then .eq else .gt := rfl
theorem fb_cmp {E T F : Nat} (hE1 : 1 ≤ E) (hE2 : E ≤ 254) (hT : T < 8388608) (hF1 : 1 ≤ F) (hF2 : F ≤ 254) (op : CmpOp) : Op.cmpValue (FP.fcmp (fb E T) (fb F 0)) op < 0 ↔ E < F := by
  have e : FP.fcmp (fb E T) (fb F 0) = FP.Core.order (FP.Core.decode FP.Core.b32 (fb E T).toNat) (FP.Core.decode FP.Core.b32 (fb F 0).toNat) := rfl
  rw [e, fb_dec hE1 hE2 hT, fb_dec hF1 hF2 (by decide)]
  unfold FP.Core.order
  dsimp only
  unfold FP.Core.signed FP.Core.inUnits
  rw [if_neg (by decide), if_neg (by decide), fb_ord]
  by_cases h : E < F
  · rw [show min ((E : Int) - 150) ((F : Int) - 150) = (E : Int) - 150 by omega, show ((E : Int) - 150 - ((E : Int) - 150)).toNat = 0 by omega, show ((F : Int) - 150 - ((E : Int) - 150)).toNat = (F - E - 1) + 1 by omega, Nat.pow_succ]
    have hp := Nat.two_pow_pos (F - E - 1)
    rw [if_pos (by omega)]
    exact ⟨fun _ => h, fun _ => by cases op <;> decide⟩
  · rw [show min ((E : Int) - 150) ((F : Int) - 150) = (F : Int) - 150 by omega, show ((F : Int) - 150 - ((F : Int) - 150)).toNat = 0 by omega]
    have hp := Nat.two_pow_pos ((E : Int) - 150 - ((F : Int) - 150)).toNat
    have hm : 8388608 + T ≤ (8388608 + T) * 2 ^ ((E : Int) - 150 - ((F : Int) - 150)).toNat := Nat.le_mul_of_pos_right _ hp
    rw [if_neg (by omega)]
    refine ⟨fun hx => absurd hx ?_, fun hx => absurd hx h⟩
    split <;> (cases op <;> decide)
theorem fb_pos {E T : Nat} (hE1 : 1 ≤ E) (hE2 : E ≤ 254) (hT : T < 8388608) (op : CmpOp) : 0 < Op.cmpValue (FP.fcmp (fb E T) FP.fconst0) op := by
  have e : FP.fcmp (fb E T) FP.fconst0 = FP.Core.order (FP.Core.decode FP.Core.b32 (fb E T).toNat) (FP.Core.decode FP.Core.b32 FP.fconst0.toNat) := rfl
  rw [e, fb_dec hE1 hE2 hT, show FP.Core.decode FP.Core.b32 FP.fconst0.toNat = .fin false 0 (-149) by decide +kernel]
  unfold FP.Core.order
  dsimp only
  unfold FP.Core.signed FP.Core.inUnits
  rw [if_neg (by decide), if_neg (by decide), fb_ord]
  have hp := Nat.two_pow_pos ((E : Int) - 150 - min ((E : Int) - 150) (-149)).toNat
  have hm : 8388608 + T ≤ (8388608 + T) * 2 ^ ((E : Int) - 150 - min ((E : Int) - 150) (-149)).toNat := Nat.le_mul_of_pos_right _ hp
  rw [if_neg (by omega), if_neg (by omega)]
  cases op <;> decide
theorem fb_f2i {T : Nat} (hT : T < 8388608) : FP.f2i (fb 150 T) = nI (8388608 + T) := by
  have e : FP.f2i (fb 150 T) = FP.Core.toI (FP.Core.decode FP.Core.b32 (fb 150 T).toNat) := rfl
  rw [e, fb_dec (by decide) (by decide) hT]
  unfold FP.Core.toI FP.Core.toInt FP.Core.truncate FP.Core.signed
  dsimp only
  rw [if_neg (by decide), show (((150 : Nat) : Int) - 150).toNat = 0 by decide, show (-(((150 : Nat) : Int) - 150)).toNat = 0 by decide]
  rw [show (8388608 + T) * 2 ^ 0 / 2 ^ 0 = 8388608 + T by omega, show max (-2 ^ 31 : Int) (min (2 ^ 31 - 1) (((8388608 + T : Nat)) : Int)) = ((8388608 + T : Nat) : Int) by omega]
  rw [← Int32.toInt_inj, nI_toInt (by omega), Int32.toInt_ofInt]
  exact ag_bm (by omega) (by omega)
