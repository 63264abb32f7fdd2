/-! remainders that are never below 0: where a record begins, a row of the history -/
theorem ag_ofT {x : Int32} {k : Nat} (h : x.toInt = k) (hk : k < 2 ^ 31) : x = nI k := Int32.toInt_inj.mp (by rw [h, nI_toInt hk])
theorem ag_ge0 (x : Int32) : 0 ≤ x ↔ 0 ≤ x.toInt := by rw [Int32.le_iff_toInt_le, Int32.toInt_zero]
theorem ag_lt0 (x : Int32) : x < 0 ↔ x.toInt < 0 := by rw [Int32.lt_iff_toInt_lt, Int32.toInt_zero]
theorem fm_in (x : Int32) {d : Nat} (h0 : 0 < d) (hd : d < 2 ^ 30) : ∃ k, k < d ∧ sr_J9_floorMod_7cf53 x (nI d) = nI k := by
  have hr := ag_rem_int x h0 (Nat.lt_trans hd (by decide))
  have b2 := @tmod_bounds x.toInt d (by omega)
  have hsg : 0 ≤ x.toInt → 0 ≤ x.toInt.tmod d := fun h => Int.tmod_nonneg _ h
  have hsg2 : x.toInt ≤ 0 → x.toInt.tmod d ≤ 0 := fun h => by
    have := Int.tmod_nonneg (d : Int) (a := -x.toInt) (by omega)
    rw [Int.neg_tmod] at this
    omega
  unfold sr_J9_floorMod_7cf53
  generalize hz : x - x / nI d * nI d = z at hr ⊢
  by_cases hx : 0 ≤ x ^^^ nI d
  · rw [if_pos hx]
    have h1 := (ag_ge0 x).mp ((ag_xor_sign x (Nat.lt_trans hd (by decide))).mp hx)
    have h2 := hsg h1
    exact ⟨z.toInt.toNat, by omega, ag_ofT (by omega) (by omega)⟩
  · rw [if_neg hx]
    have h1 : x.toInt < 0 := by
      have := mt (ag_xor_sign x (Nat.lt_trans hd (by decide))).mpr hx
      rw [ag_ge0] at this
      omega
    have h2 := hsg2 (by omega)
    by_cases hz0 : z = 0
    · rw [if_pos hz0, hz0]
      exact ⟨0, h0, rfl⟩
    · rw [if_neg hz0]
      have h3 : z.toInt ≠ 0 := fun h => hz0 (Int32.toInt_inj.mp (by rw [h]; rfl))
      have hd2 := nI_toInt (n := d) (by omega)
      have h4 : (z + nI d).toInt = z.toInt + d := by
        rw [Int32.toInt_add, hd2, ag_bm (by omega) (by omega)]
      exact ⟨(z.toInt + d).toNat, by omega, ag_ofT (by rw [h4]; omega) (by omega)⟩
def rs (x : Int32) : Nat := (sr_X5_recordStart x).toNatClampNeg
theorem rs_at (x : Int32) : ∃ k, k < 10 ∧ sr_X5_recordStart x = nI (k * 6) := by
  obtain ⟨k, h1, h2⟩ := fm_in x (d := 10) (by decide) (by decide)
  refine ⟨k, h1, ?_⟩
  unfold sr_X5_recordStart
  have e : (10 : Int32) = nI 10 := rfl
  rw [e, h2]
  exact pk_mul k 6
theorem rs_eq (x : Int32) : sr_X5_recordStart x = nI (rs x) := by
  obtain ⟨k, h1, h2⟩ := rs_at x
  unfold rs
  rw [h2, nI_clamp (by omega)]
theorem rs_le (x : Int32) : rs x ≤ 54 := by
  obtain ⟨k, h1, h2⟩ := rs_at x
  unfold rs
  rw [h2, nI_clamp (by omega)]
  omega
