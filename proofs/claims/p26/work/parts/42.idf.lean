/-! what isSo rests on -/
def gv9_1_L_isSo (ug : Nat → Int32) : Nat → Int32 := sw1_L_weigh ug (fun _ => 0)
def j336_0_L_isSo (ug : Nat → Int32) : Int32 := if (sr_L_birds ug) = 0 then 0 else 1
def gv385_2_L_isSo (f : Nat → Int32) (se : Nat → Int32) (ki : Nat → Int32) : Nat → Int32 := sw30_X5_next f se ki
def gv138_3_L_isSo (f : Nat → Int32) (se : Nat → Int32) (ki : Nat → Int32) : Nat → Int32 := sw30_X5_next f se ki
theorem cnt_k {hf f se to tf : Nat → Int32} {k : Nat} (h : k < 7) : sr_X5_count hf f se to tf (nI k) = to k := by
  have c : ¬ 7 ≤ nI k := fun e => absurd ((nI_leI (a := 7) (by decide) (by omega)).mp e) (by omega)
  unfold sr_X5_count
  rw [if_neg (nn0 (by omega)), if_neg c, nI_clamp (by omega)]
theorem cnt_s {hf f se to tf : Nat → Int32} {k : Nat} (h : k < 3) : sr_X5_count hf f se to tf (nI (20 + k)) = se k := by
  have c1 : 7 ≤ nI (20 + k) := (nI_leI (a := 7) (by decide) (by omega)).mpr (by omega)
  have c2 : ¬ nI (20 + k) < 20 := nI_nlt (b := 20) (by omega) (by omega)
  have c3 : ¬ 23 ≤ nI (20 + k) := fun e => absurd ((nI_leI (a := 23) (by decide) (by omega)).mp e) (by omega)
  have e : nI (20 + k) - 20 = nI k := (pk_sub (a := 20 + k) (b := 20) (by omega)).trans (congrArg nI (by omega))
  unfold sr_X5_count
  rw [if_neg (nn0 (by omega)), if_pos c1, if_neg c2, if_neg c3, e, nI_clamp (by omega)]
theorem now_v (f : Nat → Int32) : sr_X5_now f 0 = f 0 ∧ sr_X5_now f 1 = f 0 / 144 ∧ sr_X5_now f 2 = f 0 - f 0 / 144 * 144 ∧ sr_X5_now f 3 = sr_X5_seaLevel (f 0) ∧ sr_X5_now f 4 = sr_X1_level f ∧ sr_X5_now f 5 = sr_X1_head f ∧ sr_X5_now f 6 = f 1 ∧ sr_X5_now f 7 = f 2 ∧ sr_X5_now f 8 = f 3 ∧ sr_X5_now f 9 = f 4 ∧ sr_X5_now f 10 = f 5 ∧
    sr_X5_now f 11 = (if sr_X1_isBirdHour f = 0 then 0 else 1) ∧ sr_X5_now f 12 = sr_X5_tideHeight (f 0 / 144) ∧ sr_X5_now f 13 = -1000000001 := by
  unfold sr_X5_now
  generalize sr_X5_seaLevel (f 0) = a
  generalize sr_X1_level f = b
  generalize sr_X1_head f = c
  generalize sr_X1_isBirdHour f = d
  generalize sr_X5_tideHeight (f 0 / 144) = e
  exact ⟨rfl, rfl, rfl, rfl, rfl, rfl, rfl, rfl, rfl, rfl, rfl, rfl, rfl, rfl⟩
section IS
variable {T : Nat} {hf f se to re tf ki ug ur ud : Nat → Int32}
theorem is_w (hR : PR T f se to re ug ur ud) : sr_X5_now f 6 = (40000 + sr_X5_count hf f se to tf 2) - sr_X5_count hf f se to tf 3 := by
  rw [show sr_X5_count hf f se to tf 2 = to 2 from cnt_k (k := 2) (by decide), show sr_X5_count hf f se to tf 3 = to 3 from cnt_k (k := 3) (by decide), (now_v f).2.2.2.2.2.2.1]
  exact hR.2.2.2.2.2.2.2.2.1
theorem is_s (hR : PR T f se to re ug ur ud) : sr_X5_now f 7 = (sr_X5_count hf f se to tf 5 - sr_X5_count hf f se to tf 6) - sr_X5_count hf f se to tf 4 := by
  rw [show sr_X5_count hf f se to tf 5 = to 5 from cnt_k (k := 5) (by decide), show sr_X5_count hf f se to tf 6 = to 6 from cnt_k (k := 6) (by decide), show sr_X5_count hf f se to tf 4 = to 4 from cnt_k (k := 4) (by decide), (now_v f).2.2.2.2.2.2.2.1]
  exact hR.2.2.2.2.2.2.2.2.2
theorem is_w0 (hR : PR T f se to re ug ur ud) : ¬ sr_X5_now f 6 < 0 := by
  obtain ⟨w, w1, w2⟩ := hR.1.2.1
  rw [(now_v f).2.2.2.2.2.2.1, w1]
  exact nn0 (by omega)
theorem is_w8 (hR : PR T f se to re ug ur ud) : ¬ 80000 < sr_X5_now f 6 := by
  obtain ⟨w, w1, w2⟩ := hR.1.2.1
  rw [(now_v f).2.2.2.2.2.2.1, w1]
  exact nI_nlt (a := 80000) (by omega) (by decide)
theorem is_s0 (hR : PR T f se to re ug ur ud) : ¬ sr_X5_now f 7 < 0 := by
  obtain ⟨w, w1, w2⟩ := hR.1.2.2.1
  rw [(now_v f).2.2.2.2.2.2.2.1, w1]
  exact nn0 (by omega)
theorem is_s2 (hR : PR T f se to re ug ur ud) : ¬ 20000 < sr_X5_now f 7 := by
  obtain ⟨w, w1, w2⟩ := hR.1.2.2.1
  rw [(now_v f).2.2.2.2.2.2.2.1, w1]
  exact nI_nlt (a := 20000) (by omega) (by decide)
theorem nx_v {k : Nat} (hk : k < 7) : sr_X5_next f se ki (nI k) = sw0_X4_foresee ki f se (sr_X1_head f) k := by
  unfold sr_X5_next gv15_1_X5_next
  generalize sw0_X4_foresee ki f se (sr_X1_head f) = K
  rcases k with _ | _ | _ | _ | _ | _ | _ | k
  · show (if (0 : Int32) = 0 then K 0 else if (0 : Int32) = 1 then K 1 else if (0 : Int32) = 2 then K 2 else if (0 : Int32) = 3 then K 3 else if (0 : Int32) = 4 then K 4 else if (0 : Int32) = 5 then K 5 else if (0 : Int32) = 6 then K 6 else (-1000000001)) = K 0
    rw [if_pos rfl]
  · show (if (1 : Int32) = 0 then K 0 else if (1 : Int32) = 1 then K 1 else if (1 : Int32) = 2 then K 2 else if (1 : Int32) = 3 then K 3 else if (1 : Int32) = 4 then K 4 else if (1 : Int32) = 5 then K 5 else if (1 : Int32) = 6 then K 6 else (-1000000001)) = K 1
    rw [if_neg (by decide), if_pos rfl]
  · show (if (2 : Int32) = 0 then K 0 else if (2 : Int32) = 1 then K 1 else if (2 : Int32) = 2 then K 2 else if (2 : Int32) = 3 then K 3 else if (2 : Int32) = 4 then K 4 else if (2 : Int32) = 5 then K 5 else if (2 : Int32) = 6 then K 6 else (-1000000001)) = K 2
    rw [if_neg (by decide), if_neg (by decide), if_pos rfl]
  · show (if (3 : Int32) = 0 then K 0 else if (3 : Int32) = 1 then K 1 else if (3 : Int32) = 2 then K 2 else if (3 : Int32) = 3 then K 3 else if (3 : Int32) = 4 then K 4 else if (3 : Int32) = 5 then K 5 else if (3 : Int32) = 6 then K 6 else (-1000000001)) = K 3
    rw [if_neg (by decide), if_neg (by decide), if_neg (by decide), if_pos rfl]
  · show (if (4 : Int32) = 0 then K 0 else if (4 : Int32) = 1 then K 1 else if (4 : Int32) = 2 then K 2 else if (4 : Int32) = 3 then K 3 else if (4 : Int32) = 4 then K 4 else if (4 : Int32) = 5 then K 5 else if (4 : Int32) = 6 then K 6 else (-1000000001)) = K 4
    rw [if_neg (by decide), if_neg (by decide), if_neg (by decide), if_neg (by decide), if_pos rfl]
  · show (if (5 : Int32) = 0 then K 0 else if (5 : Int32) = 1 then K 1 else if (5 : Int32) = 2 then K 2 else if (5 : Int32) = 3 then K 3 else if (5 : Int32) = 4 then K 4 else if (5 : Int32) = 5 then K 5 else if (5 : Int32) = 6 then K 6 else (-1000000001)) = K 5
    rw [if_neg (by decide), if_neg (by decide), if_neg (by decide), if_neg (by decide), if_neg (by decide), if_pos rfl]
  · show (if (6 : Int32) = 0 then K 0 else if (6 : Int32) = 1 then K 1 else if (6 : Int32) = 2 then K 2 else if (6 : Int32) = 3 then K 3 else if (6 : Int32) = 4 then K 4 else if (6 : Int32) = 5 then K 5 else if (6 : Int32) = 6 then K 6 else (-1000000001)) = K 6
    rw [if_neg (by decide), if_neg (by decide), if_neg (by decide), if_neg (by decide), if_neg (by decide), if_neg (by decide), if_pos rfl]
  · omega
theorem is_nx {k : Nat} (hT : T ≤ 9999) (hR : PR T f se to re ug ur ud) (hk : k < 7) : sr_X5_next f se ki (nI k) = gv9_1_L_isSo ug k :=
  (nx_v hk).trans ((wg_rel (kf := ki) (uf := fun _ => 0) (by omega) hR.1 hR.2.1 hR.2.2.1).1 k hk).symm
theorem is_ct {k : Nat} (hR : PR T f se to re ug ur ud) (hk : k < 7) : sr_X5_count hf f se to tf (nI k) = ug (11 + k) := (cnt_k hk).trans (hR.2.2.2.1 k hk).symm
theorem is_se {k : Nat} (hR : PR T f se to re ug ur ud) (h7 : k < 7) (hk : ¬ 2 < nI k) : sr_X5_count hf f se to tf (nI (20 + k)) = ug (8 + k) := by
  have h3 : k < 3 := Nat.not_le.mp (fun e => hk (nI_lt (a := 2) (by omega) (by omega)))
  exact (cnt_s h3).trans (hR.2.2.1 k h3).symm
theorem is_n0 (hR : PR T f se to re ug ur ud) : sr_X5_now f 0 = ug 0 := (now_v f).1.trans (hR.2.1 0 (by omega)).symm
theorem is_n1 (hR : PR T f se to re ug ur ud) : sr_X5_now f 1 = ug 0 / 144 := by rw [(now_v f).2.1, hR.2.1 0 (by omega)]
theorem is_n2 (hR : PR T f se to re ug ur ud) : sr_X5_now f 2 = ug 0 - ug 0 / 144 * 144 := by rw [(now_v f).2.2.1, hR.2.1 0 (by omega)]
theorem is_n3 (hT : T ≤ 9999) (hR : PR T f se to re ug ur ud) : sr_X5_now f 3 = sr_L_sea (ug 0) := by rw [(now_v f).2.2.2.1, hR.2.1 0 (by omega), hR.1.1, sea_L (by omega)]
theorem is_n4 (hR : PR T f se to re ug ur ud) : sr_X5_now f 4 = sr_L_level ug := by rw [(now_v f).2.2.2.2.1, lev_L (hR.2.1 1 (by omega)) (hR.2.1 2 (by omega))]
theorem is_n5 (hT : T ≤ 9999) (hR : PR T f se to re ug ur ud) : sr_X5_now f 5 = sr_L_sea (ug 0) - sr_L_level ug := by
  rw [(now_v f).2.2.2.2.2.1, lev_L (hR.2.1 1 (by omega)) (hR.2.1 2 (by omega)), hR.2.1 0 (by omega), hR.1.1, sea_L (by omega)]
  unfold sr_X1_head
  rw [hR.1.1]
theorem is_n11 (hR : PR T f se to re ug ur ud) : sr_X5_now f 11 = j336_0_L_isSo ug := by
  rw [(now_v f).2.2.2.2.2.2.2.2.2.2.2.1]
  unfold j336_0_L_isSo
  rw [bird_L (hR.2.1 0 (by omega)) (hR.2.1 6 (by omega)) (hR.2.1 7 (by omega))]
theorem tide_L : ∀ r, r < 14 → seaH r = 200 + (20 * sr_L_size (nI r - 7)) := by decide +kernel
theorem is_n12 (hT : T ≤ 9999) (hR : PR T f se to re ug ur ud) : sr_X5_now f 12 = 200 + (20 * sr_L_size ((ug 0 / 144 - ug 0 / 144 / 14 * 14) - 7)) := by
  rw [(now_v f).2.2.2.2.2.2.2.2.2.2.2.2.1, hR.2.1 0 (by omega), hR.1.1, tdiv rfl (by omega), tide_T (by omega), show (14 : Int32) = nI 14 from rfl, pk_rem (by omega) (by decide) (by decide)]
  exact tide_L _ (Nat.mod_lt _ (by decide))
theorem is_n13 (f : Nat → Int32) : sr_X5_now f 13 = -1000000001 := (now_v f).2.2.2.2.2.2.2.2.2.2.2.2.2
theorem is_x7 (f se ki : Nat → Int32) : sr_X5_next f se ki 7 = -1000000001 := by
  unfold sr_X5_next
  generalize gv15_1_X5_next f se ki = K
  rfl
theorem is_c9 : sr_X5_count hf f se to tf 9 = tf 0 := by
  unfold sr_X5_count
  rw [if_neg (by decide), if_pos (by decide), if_pos (by decide), if_neg (by decide), if_neg (by decide), if_pos (by decide)]
theorem is_now {k : Nat} (hR : PR T f se to re ug ur ud) (h7 : k < 7) (hk : ¬ 4 < nI k) : sr_X5_now f (nI (6 + k)) = ug (1 + k) := by
  have h5 : k < 5 := Nat.not_le.mp (fun e => hk (nI_lt (a := 4) (by omega) (by omega)))
  obtain ⟨-, -, -, -, -, -, n6, n7, n8, n9, n10, -⟩ := now_v f
  rw [hR.2.1 (1 + k) (by omega)]
  rcases k with _ | _ | _ | _ | _ | k
  · exact n6
  · exact n7
  · exact n8
  · exact n9
  · exact n10
  · omega
end IS
