/-! numbers -/
theorem ag_ixr {x : Int32} {n : Nat} (hn : n < 2 ^ 31) (h0 : ¬ x < 0) (h1 : x < nI n) : x = nI x.toNatClampNeg ∧ x.toNatClampNeg < n := by
  obtain ⟨j, hj, rfl⟩ := nI_of h0
  rw [nI_clamp hj]
  exact ⟨rfl, (nI_ltI hj hn).mp h1⟩
theorem ag_xor_sign (x : Int32) {d : Nat} (hd : d < 2 ^ 31) : 0 ≤ x ^^^ nI d ↔ 0 ≤ x := by
  rw [Int32.le_iff_toInt_le, Int32.le_iff_toInt_le, Int32.toInt_zero]
  have h1 : (nI d).toBitVec.msb = false := by
    rw [BitVec.msb_eq_toInt]
    have := nI_toInt hd
    have h2 : (nI d).toBitVec.toInt = (d : Int) := this
    rw [h2]
    simp
  have h3 : (x ^^^ nI d).toBitVec.msb = x.toBitVec.msb := by
    rw [Int32.toBitVec_xor, BitVec.msb_xor, h1, Bool.xor_false]
  rw [BitVec.msb_eq_toInt, BitVec.msb_eq_toInt] at h3
  have h4 : ((x ^^^ nI d).toBitVec.toInt < 0) ↔ (x.toBitVec.toInt < 0) := by
    constructor
    · intro h
      have := h3.symm.trans (decide_eq_true h)
      exact of_decide_eq_true this
    · intro h
      have := h3.trans (decide_eq_true h)
      exact of_decide_eq_true this
  have e1 : (x ^^^ nI d).toInt = (x ^^^ nI d).toBitVec.toInt := rfl
  have e2 : x.toInt = x.toBitVec.toInt := rfl
  omega
theorem ag_bm {z : Int} (h1 : -2147483648 ≤ z) (h2 : z < 2147483648) : z.bmod (2 ^ 32) = z := by
  rw [Int.bmod_eq_of_le] <;> omega
theorem ag_rg (x : Int32) : -2147483648 ≤ x.toInt ∧ x.toInt < 2147483648 := by
  have h1 := Int32.le_toInt x
  have h2 := Int32.toInt_lt x
  omega
theorem ag_rem_int (x : Int32) {d : Nat} (h0 : 0 < d) (hd : d < 2 ^ 31) : (x - x / nI d * nI d).toInt = x.toInt.tmod d := by
  have hr := ag_rg x
  have e1 := Int.mul_tdiv_add_tmod x.toInt d
  have b1 := Int.natAbs_tdiv_le_natAbs x.toInt d
  have b2 := @tmod_bounds x.toInt d (by omega)
  have hs : (x.toInt.tmod d).natAbs ≤ x.toInt.natAbs := by
    rw [Int.natAbs_tmod]
    exact Nat.mod_le _ _
  have hsg : 0 ≤ x.toInt → 0 ≤ x.toInt.tmod d := fun h => Int.tmod_nonneg _ h
  have hsg2 : x.toInt ≤ 0 → x.toInt.tmod d ≤ 0 := fun h => by
    have := Int.tmod_nonneg (d : Int) (a := -x.toInt) (by omega)
    rw [Int.neg_tmod] at this
    omega
  rw [Int32.toInt_sub, Int32.toInt_mul, Int32.toInt_div, nI_toInt hd]
  have e2 : x.toInt.tdiv d * d = x.toInt - x.toInt.tmod d := by
    rw [Int.mul_comm]; omega
  have g1 : (x.toInt.tdiv d).bmod (2 ^ 32) = x.toInt.tdiv d ∨ x.toInt.tdiv d = 2147483648 := by
    by_cases h : x.toInt.tdiv d = 2147483648
    · exact Or.inr h
    · exact Or.inl (ag_bm (by omega) (by omega))
  rcases g1 with g1 | g1
  · rw [g1, e2, ag_bm (z := x.toInt - x.toInt.tmod d) (by omega) (by omega), ag_bm (by omega) (by omega)]
    omega
  · exfalso
    rw [g1] at e2
    omega
