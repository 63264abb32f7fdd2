/-! what acts rests on -/
theorem low_in (x p : Int32) {n : Nat} (h0 : 0 < n) (hn : n < 2 ^ 31) (hp : p = nI n) : ∃ k, k < n ∧ sr_L_low x p = nI k := by
  unfold sr_L_low
  rw [hp, pk_and x 31 (m := 2147483647) (by decide), pk_rem (Nat.mod_lt _ (by decide)) h0 hn]
  exact ⟨_, Nat.mod_lt _ h0, rfl⟩
theorem qrem {a : Nat} {p : Int32} (n : Nat) (hp : p = nI n) (h0 : 0 < n) (hn : n < 2 ^ 31) (ha : a < 2 ^ 31) : nI a - nI a / p * p = nI (a % n) := by rw [hp, pk_rem ha h0 hn]
theorem qdiv {a : Nat} {p : Int32} (n : Nat) (hp : p = nI n) (h0 : 0 < n) (hn : n < 2 ^ 31) (ha : a < 2 ^ 31) : nI a / p = nI (a / n) := by rw [hp, pk_div ha h0 hn]
theorem sel {a : Nat} (ha : a < 2 ^ 31) (u v : Nat) : (if nI a = 0 then nI u else nI v) = nI (if a = 0 then u else v) := by
  by_cases c : a = 0
  · rw [if_pos c, if_pos (by rw [c]; rfl)]
  · rw [if_neg c, if_neg (nI_ne0 (by omega) ha)]
def m5 (y : Nat) : Nat := if y % 3 = 0 then 20000 else 300
def m6 (y : Nat) : Nat := if y % 2 = 0 then 9999 else 900
def m7 (y : Nat) : Nat := if y % 4 = 0 then 300 else 40
theorem m5_b (y : Nat) : 0 < m5 y ∧ m5 y < 2 ^ 31 ∧ m5 y ≤ 20000 := by unfold m5; split <;> decide
theorem m6_b (y : Nat) : 0 < m6 y ∧ m6 y < 2 ^ 31 ∧ m6 y ≤ 9999 := by unfold m6; split <;> decide
theorem m7_b (y : Nat) : 0 < m7 y ∧ m7 y < 2 ^ 31 ∧ m7 y ≤ 300 := by unfold m7; split <;> decide
def j433_0_L_acts (y : Nat) : Int32 := if (nI (y % 4)) = 0 then 300 else 40
def gv477_1_L_acts (hf : Nat → Int32) (f : Nat → Int32) (se : Nat → Int32) (to : Nat → Int32) (re : Nat → Int32) (kf : Nat → Int32) (y : Nat) : Nat → Int32 := sw1_X5_run hf f se to re kf (nI (1 + y % m7 y))
def gv477_2_L_acts (hf : Nat → Int32) (f : Nat → Int32) (se : Nat → Int32) (to : Nat → Int32) (re : Nat → Int32) (kf : Nat → Int32) (sf : Nat → Nat → Int32) (y : Nat) : Nat → Nat → Int32 := fw_sf_X5_run hf f se to re kf (nI (1 + y % m7 y)) sf
def gv477_3_L_acts (hf : Nat → Int32) (f : Nat → Int32) (se : Nat → Int32) (to : Nat → Int32) (re : Nat → Int32) (kf : Nat → Int32) (sse : Nat → Nat → Int32) (y : Nat) : Nat → Nat → Int32 := fw_sse_X5_run hf f se to re kf (nI (1 + y % m7 y)) sse
def gv477_4_L_acts (hf : Nat → Int32) (f : Nat → Int32) (se : Nat → Int32) (to : Nat → Int32) (re : Nat → Int32) (kf : Nat → Int32) (sto : Nat → Nat → Int32) (y : Nat) : Nat → Nat → Int32 := fw_sto_X5_run hf f se to re kf (nI (1 + y % m7 y)) sto
def gv477_5_L_acts (hf : Nat → Int32) (f : Nat → Int32) (se : Nat → Int32) (to : Nat → Int32) (re : Nat → Int32) (kf : Nat → Int32) (sre : Nat → Nat → Int32) (y : Nat) : Nat → Nat → Int32 := fw_sre_X5_run hf f se to re kf (nI (1 + y % m7 y)) sre
def gv477_6_L_acts (f : Nat → Int32) (se : Nat → Int32) (to : Nat → Int32) (re : Nat → Int32) (kf : Nat → Int32) (y : Nat) : Nat → Int32 := sw19_X5_run f se to re kf (nI (1 + y % m7 y))
def gv477_7_L_acts (f : Nat → Int32) (se : Nat → Int32) (to : Nat → Int32) (re : Nat → Int32) (kf : Nat → Int32) (y : Nat) : Nat → Int32 := sw20_X5_run f se to re kf (nI (1 + y % m7 y))
def gv477_8_L_acts (f : Nat → Int32) (se : Nat → Int32) (to : Nat → Int32) (re : Nat → Int32) (kf : Nat → Int32) (y : Nat) : Nat → Int32 := sw21_X5_run f se to re kf (nI (1 + y % m7 y))
def gv477_9_L_acts (f : Nat → Int32) (se : Nat → Int32) (to : Nat → Int32) (re : Nat → Int32) (kf : Nat → Int32) (y : Nat) : Nat → Int32 := sw22_X5_run f se to re kf (nI (1 + y % m7 y))
def gv477_10_L_acts (f : Nat → Int32) (se : Nat → Int32) (to : Nat → Int32) (re : Nat → Int32) (kf : Nat → Int32) (y : Nat) : Nat → Int32 := sw26_X5_run f se to re kf (nI (1 + y % m7 y))
def gv477_11_L_acts (se : Nat → Int32) : Nat → Int32 := sw27_X5_run se
def gv477_12_L_acts (f : Nat → Int32) (se : Nat → Int32) (to : Nat → Int32) (re : Nat → Int32) (kf : Nat → Int32) (y : Nat) : Nat → Int32 := sw28_X5_run f se to re kf (nI (1 + y % m7 y))
def gv477_13_L_acts (f : Nat → Int32) (se : Nat → Int32) (to : Nat → Int32) (re : Nat → Int32) (kf : Nat → Int32) (y : Nat) : Nat → Int32 := sw29_X5_run f se to re kf (nI (1 + y % m7 y))
def gv477_14_L_acts (f : Nat → Int32) (se : Nat → Int32) (to : Nat → Int32) (re : Nat → Int32) (kf : Nat → Int32) (y : Nat) : Nat → Int32 := sw30_X5_run f se to re kf (nI (1 + y % m7 y))
def gv452_15_L_acts (hf : Nat → Int32) (f : Nat → Int32) (se : Nat → Int32) (to : Nat → Int32) (re : Nat → Int32) (kf : Nat → Int32) (y : Nat) : Nat → Int32 := sw1_X5_run hf f se to re kf (nI (1 + y % m7 y))
def gv452_16_L_acts (hf : Nat → Int32) (f : Nat → Int32) (se : Nat → Int32) (to : Nat → Int32) (re : Nat → Int32) (kf : Nat → Int32) (sf : Nat → Nat → Int32) (y : Nat) : Nat → Nat → Int32 := fw_sf_X5_run hf f se to re kf (nI (1 + y % m7 y)) sf
def gv452_17_L_acts (hf : Nat → Int32) (f : Nat → Int32) (se : Nat → Int32) (to : Nat → Int32) (re : Nat → Int32) (kf : Nat → Int32) (sse : Nat → Nat → Int32) (y : Nat) : Nat → Nat → Int32 := fw_sse_X5_run hf f se to re kf (nI (1 + y % m7 y)) sse
def gv452_18_L_acts (hf : Nat → Int32) (f : Nat → Int32) (se : Nat → Int32) (to : Nat → Int32) (re : Nat → Int32) (kf : Nat → Int32) (sto : Nat → Nat → Int32) (y : Nat) : Nat → Nat → Int32 := fw_sto_X5_run hf f se to re kf (nI (1 + y % m7 y)) sto
def gv452_19_L_acts (hf : Nat → Int32) (f : Nat → Int32) (se : Nat → Int32) (to : Nat → Int32) (re : Nat → Int32) (kf : Nat → Int32) (sre : Nat → Nat → Int32) (y : Nat) : Nat → Nat → Int32 := fw_sre_X5_run hf f se to re kf (nI (1 + y % m7 y)) sre
def gv452_20_L_acts (f : Nat → Int32) (se : Nat → Int32) (to : Nat → Int32) (re : Nat → Int32) (kf : Nat → Int32) (y : Nat) : Nat → Int32 := sw19_X5_run f se to re kf (nI (1 + y % m7 y))
def gv452_21_L_acts (f : Nat → Int32) (se : Nat → Int32) (to : Nat → Int32) (re : Nat → Int32) (kf : Nat → Int32) (y : Nat) : Nat → Int32 := sw20_X5_run f se to re kf (nI (1 + y % m7 y))
def gv452_22_L_acts (f : Nat → Int32) (se : Nat → Int32) (to : Nat → Int32) (re : Nat → Int32) (kf : Nat → Int32) (y : Nat) : Nat → Int32 := sw21_X5_run f se to re kf (nI (1 + y % m7 y))
def gv452_23_L_acts (f : Nat → Int32) (se : Nat → Int32) (to : Nat → Int32) (re : Nat → Int32) (kf : Nat → Int32) (y : Nat) : Nat → Int32 := sw22_X5_run f se to re kf (nI (1 + y % m7 y))
def gv452_24_L_acts (f : Nat → Int32) (se : Nat → Int32) (to : Nat → Int32) (re : Nat → Int32) (kf : Nat → Int32) (y : Nat) : Nat → Int32 := sw26_X5_run f se to re kf (nI (1 + y % m7 y))
def gv452_25_L_acts (se : Nat → Int32) : Nat → Int32 := sw27_X5_run se
def gv452_26_L_acts (f : Nat → Int32) (se : Nat → Int32) (to : Nat → Int32) (re : Nat → Int32) (kf : Nat → Int32) (y : Nat) : Nat → Int32 := sw28_X5_run f se to re kf (nI (1 + y % m7 y))
def gv452_27_L_acts (f : Nat → Int32) (se : Nat → Int32) (to : Nat → Int32) (re : Nat → Int32) (kf : Nat → Int32) (y : Nat) : Nat → Int32 := sw29_X5_run f se to re kf (nI (1 + y % m7 y))
def gv452_28_L_acts (f : Nat → Int32) (se : Nat → Int32) (to : Nat → Int32) (re : Nat → Int32) (kf : Nat → Int32) (y : Nat) : Nat → Int32 := sw30_X5_run f se to re kf (nI (1 + y % m7 y))
def j388_0_L_acts (y : Nat) : Int32 := if (nI (y % 2)) = 0 then 9999 else 900
def j390_0_L_acts (y : Nat) : Int32 := if (nI (y % 3)) = 0 then nI (1 + y / 3 % 400) else if (nI (y % 3)) = 1 then nI (y / 3 % 401) else nI (1 + y / 3 % m6 y)
def gv401_29_L_acts (hf : Nat → Int32) (se : Nat → Int32) (y : Nat) : Nat → Int32 := sw1_X5_set hf se (nI (y % 3)) (j390_0_L_acts y)
def gv401_30_L_acts (hf : Nat → Int32) (f : Nat → Int32) (se : Nat → Int32) (sf : Nat → Nat → Int32) (y : Nat) : Nat → Nat → Int32 := fw_sf_X5_set hf f se (nI (y % 3)) (j390_0_L_acts y) sf
def gv401_31_L_acts (hf : Nat → Int32) (se : Nat → Int32) (sse : Nat → Nat → Int32) (y : Nat) : Nat → Nat → Int32 := fw_sse_X5_set hf se (nI (y % 3)) (j390_0_L_acts y) sse
def gv401_32_L_acts (hf : Nat → Int32) (se : Nat → Int32) (to : Nat → Int32) (sto : Nat → Nat → Int32) (y : Nat) : Nat → Nat → Int32 := fw_sto_X5_set hf se to (nI (y % 3)) (j390_0_L_acts y) sto
def gv401_33_L_acts (hf : Nat → Int32) (se : Nat → Int32) (re : Nat → Int32) (sre : Nat → Nat → Int32) (y : Nat) : Nat → Nat → Int32 := fw_sre_X5_set hf se re (nI (y % 3)) (j390_0_L_acts y) sre
def gv401_34_L_acts (f : Nat → Int32) (se : Nat → Int32) (y : Nat) : Nat → Int32 := sw19_X5_set f se (nI (y % 3)) (j390_0_L_acts y)
def gv401_35_L_acts (se : Nat → Int32) (y : Nat) : Nat → Int32 := sw20_X5_set se (nI (y % 3)) (j390_0_L_acts y)
def gv401_36_L_acts (se : Nat → Int32) (to : Nat → Int32) (y : Nat) : Nat → Int32 := sw21_X5_set se to (nI (y % 3)) (j390_0_L_acts y)
def gv401_37_L_acts (se : Nat → Int32) (re : Nat → Int32) (y : Nat) : Nat → Int32 := sw22_X5_set se re (nI (y % 3)) (j390_0_L_acts y)
def gv401_38_L_acts (f : Nat → Int32) : Nat → Int32 := sw26_X5_set f
def gv401_39_L_acts (se : Nat → Int32) (y : Nat) : Nat → Int32 := sw27_X5_set se (nI (y % 3)) (j390_0_L_acts y)
def gv401_40_L_acts (to : Nat → Int32) : Nat → Int32 := sw28_X5_set to
def gv401_41_L_acts (re : Nat → Int32) : Nat → Int32 := sw29_X5_set re
def j240_0_L_acts (y : Nat) : Int32 := if (nI (y % 3)) = 0 then 20000 else 300
def gv289_42_L_acts (hf : Nat → Int32) (f : Nat → Int32) (y : Nat) : Nat → Int32 := sw1_X5_dredge hf f (nI (1 + y % m5 y))
def gv289_43_L_acts (hf : Nat → Int32) (f : Nat → Int32) (sf : Nat → Nat → Int32) (y : Nat) : Nat → Nat → Int32 := fw_sf_X5_dredge hf f (nI (1 + y % m5 y)) sf
def gv289_44_L_acts (hf : Nat → Int32) (f : Nat → Int32) (se : Nat → Int32) (sse : Nat → Nat → Int32) (y : Nat) : Nat → Nat → Int32 := fw_sse_X5_dredge hf f se (nI (1 + y % m5 y)) sse
def gv289_45_L_acts (hf : Nat → Int32) (f : Nat → Int32) (to : Nat → Int32) (sto : Nat → Nat → Int32) (y : Nat) : Nat → Nat → Int32 := fw_sto_X5_dredge hf f to (nI (1 + y % m5 y)) sto
def gv289_46_L_acts (hf : Nat → Int32) (f : Nat → Int32) (re : Nat → Int32) (sre : Nat → Nat → Int32) (y : Nat) : Nat → Nat → Int32 := fw_sre_X5_dredge hf f re (nI (1 + y % m5 y)) sre
def gv289_47_L_acts (f : Nat → Int32) (y : Nat) : Nat → Int32 := sw19_X5_dredge f (nI (1 + y % m5 y))
def gv289_48_L_acts (f : Nat → Int32) (se : Nat → Int32) (y : Nat) : Nat → Int32 := sw20_X5_dredge f se (nI (1 + y % m5 y))
def gv289_49_L_acts (f : Nat → Int32) (to : Nat → Int32) (y : Nat) : Nat → Int32 := sw21_X5_dredge f to (nI (1 + y % m5 y))
def gv289_50_L_acts (f : Nat → Int32) (re : Nat → Int32) (y : Nat) : Nat → Int32 := sw22_X5_dredge f re (nI (1 + y % m5 y))
def gv289_51_L_acts (f : Nat → Int32) (y : Nat) : Nat → Int32 := sw26_X5_dredge f (nI (1 + y % m5 y))
def gv289_52_L_acts (se : Nat → Int32) : Nat → Int32 := sw27_X5_dredge se
def gv289_53_L_acts (f : Nat → Int32) (to : Nat → Int32) (y : Nat) : Nat → Int32 := sw28_X5_dredge f to (nI (1 + y % m5 y))
def gv289_54_L_acts (re : Nat → Int32) : Nat → Int32 := sw29_X5_dredge re
def gv255_55_L_acts (hf : Nat → Int32) (f : Nat → Int32) (y : Nat) : Nat → Int32 := sw1_X5_dredge hf f (nI (1 + y % m5 y))
def gv255_56_L_acts (hf : Nat → Int32) (f : Nat → Int32) (sf : Nat → Nat → Int32) (y : Nat) : Nat → Nat → Int32 := fw_sf_X5_dredge hf f (nI (1 + y % m5 y)) sf
def gv255_57_L_acts (hf : Nat → Int32) (f : Nat → Int32) (se : Nat → Int32) (sse : Nat → Nat → Int32) (y : Nat) : Nat → Nat → Int32 := fw_sse_X5_dredge hf f se (nI (1 + y % m5 y)) sse
def gv255_58_L_acts (hf : Nat → Int32) (f : Nat → Int32) (to : Nat → Int32) (sto : Nat → Nat → Int32) (y : Nat) : Nat → Nat → Int32 := fw_sto_X5_dredge hf f to (nI (1 + y % m5 y)) sto
def gv255_59_L_acts (hf : Nat → Int32) (f : Nat → Int32) (re : Nat → Int32) (sre : Nat → Nat → Int32) (y : Nat) : Nat → Nat → Int32 := fw_sre_X5_dredge hf f re (nI (1 + y % m5 y)) sre
def gv255_60_L_acts (f : Nat → Int32) (y : Nat) : Nat → Int32 := sw19_X5_dredge f (nI (1 + y % m5 y))
def gv255_61_L_acts (f : Nat → Int32) (se : Nat → Int32) (y : Nat) : Nat → Int32 := sw20_X5_dredge f se (nI (1 + y % m5 y))
def gv255_62_L_acts (f : Nat → Int32) (to : Nat → Int32) (y : Nat) : Nat → Int32 := sw21_X5_dredge f to (nI (1 + y % m5 y))
def gv255_63_L_acts (f : Nat → Int32) (re : Nat → Int32) (y : Nat) : Nat → Int32 := sw22_X5_dredge f re (nI (1 + y % m5 y))
def gv255_64_L_acts (f : Nat → Int32) (y : Nat) : Nat → Int32 := sw26_X5_dredge f (nI (1 + y % m5 y))
def gv255_65_L_acts (se : Nat → Int32) : Nat → Int32 := sw27_X5_dredge se
def gv255_66_L_acts (f : Nat → Int32) (to : Nat → Int32) (y : Nat) : Nat → Int32 := sw28_X5_dredge f to (nI (1 + y % m5 y))
def gv255_67_L_acts (re : Nat → Int32) : Nat → Int32 := sw29_X5_dredge re
def gv178_68_L_acts (hf : Nat → Int32) (y : Nat) : Nat → Int32 := sw1_X5_birds hf (nI (y % 144)) (nI (y / 144 % 145))
def gv178_69_L_acts (hf : Nat → Int32) (f : Nat → Int32) (sf : Nat → Nat → Int32) (y : Nat) : Nat → Nat → Int32 := fw_sf_X5_birds hf f (nI (y % 144)) (nI (y / 144 % 145)) sf
def gv178_70_L_acts (hf : Nat → Int32) (se : Nat → Int32) (sse : Nat → Nat → Int32) (y : Nat) : Nat → Nat → Int32 := fw_sse_X5_birds hf se (nI (y % 144)) (nI (y / 144 % 145)) sse
def gv178_71_L_acts (hf : Nat → Int32) (to : Nat → Int32) (sto : Nat → Nat → Int32) (y : Nat) : Nat → Nat → Int32 := fw_sto_X5_birds hf to (nI (y % 144)) (nI (y / 144 % 145)) sto
def gv178_72_L_acts (hf : Nat → Int32) (re : Nat → Int32) (sre : Nat → Nat → Int32) (y : Nat) : Nat → Nat → Int32 := fw_sre_X5_birds hf re (nI (y % 144)) (nI (y / 144 % 145)) sre
def gv178_73_L_acts (f : Nat → Int32) (y : Nat) : Nat → Int32 := sw19_X5_birds f (nI (y % 144)) (nI (y / 144 % 145))
def gv178_74_L_acts (se : Nat → Int32) (y : Nat) : Nat → Int32 := sw20_X5_birds se (nI (y % 144)) (nI (y / 144 % 145))
def gv178_75_L_acts (to : Nat → Int32) (y : Nat) : Nat → Int32 := sw21_X5_birds to (nI (y % 144)) (nI (y / 144 % 145))
def gv178_76_L_acts (re : Nat → Int32) (y : Nat) : Nat → Int32 := sw22_X5_birds re (nI (y % 144)) (nI (y / 144 % 145))
def gv178_77_L_acts (f : Nat → Int32) (y : Nat) : Nat → Int32 := sw26_X5_birds f (nI (y % 144)) (nI (y / 144 % 145))
def gv178_78_L_acts (se : Nat → Int32) : Nat → Int32 := sw27_X5_birds se
def gv178_79_L_acts (to : Nat → Int32) : Nat → Int32 := sw28_X5_birds to
def gv178_80_L_acts (re : Nat → Int32) : Nat → Int32 := sw29_X5_birds re
def j205_0_L_acts (y : Nat) : Int32 := if (nI (y / 144 % 145)) ≤ (nI (y % 144)) then 0 else (nI (y / 144 % 145)) - (nI (y % 144))
def gv124_81_L_acts (hf : Nat → Int32) (f : Nat → Int32) (y : Nat) : Nat → Int32 := sw1_X5_pump hf f ((nI (y % 1001)) - 500)
def gv124_82_L_acts (hf : Nat → Int32) (f : Nat → Int32) (sf : Nat → Nat → Int32) (y : Nat) : Nat → Nat → Int32 := fw_sf_X5_pump hf f ((nI (y % 1001)) - 500) sf
def gv124_83_L_acts (hf : Nat → Int32) (f : Nat → Int32) (se : Nat → Int32) (sse : Nat → Nat → Int32) (y : Nat) : Nat → Nat → Int32 := fw_sse_X5_pump hf f se ((nI (y % 1001)) - 500) sse
def gv124_84_L_acts (hf : Nat → Int32) (f : Nat → Int32) (to : Nat → Int32) (sto : Nat → Nat → Int32) (y : Nat) : Nat → Nat → Int32 := fw_sto_X5_pump hf f to ((nI (y % 1001)) - 500) sto
def gv124_85_L_acts (hf : Nat → Int32) (f : Nat → Int32) (re : Nat → Int32) (sre : Nat → Nat → Int32) (y : Nat) : Nat → Nat → Int32 := fw_sre_X5_pump hf f re ((nI (y % 1001)) - 500) sre
def gv124_86_L_acts (f : Nat → Int32) (y : Nat) : Nat → Int32 := sw19_X5_pump f ((nI (y % 1001)) - 500)
def gv124_87_L_acts (f : Nat → Int32) (se : Nat → Int32) (y : Nat) : Nat → Int32 := sw20_X5_pump f se ((nI (y % 1001)) - 500)
def gv124_88_L_acts (f : Nat → Int32) (to : Nat → Int32) (y : Nat) : Nat → Int32 := sw21_X5_pump f to ((nI (y % 1001)) - 500)
def gv124_89_L_acts (f : Nat → Int32) (re : Nat → Int32) (y : Nat) : Nat → Int32 := sw22_X5_pump f re ((nI (y % 1001)) - 500)
def gv124_90_L_acts (f : Nat → Int32) (y : Nat) : Nat → Int32 := sw26_X5_pump f ((nI (y % 1001)) - 500)
def gv124_91_L_acts (se : Nat → Int32) : Nat → Int32 := sw27_X5_pump se
def gv124_92_L_acts (to : Nat → Int32) : Nat → Int32 := sw28_X5_pump to
def gv124_93_L_acts (re : Nat → Int32) : Nat → Int32 := sw29_X5_pump re
def gv81_94_L_acts (hf : Nat → Int32) (f : Nat → Int32) (y : Nat) : Nat → Int32 := sw1_X5_turbines hf f (nI (y % 7))
def gv81_95_L_acts (hf : Nat → Int32) (f : Nat → Int32) (sf : Nat → Nat → Int32) (y : Nat) : Nat → Nat → Int32 := fw_sf_X5_turbines hf f (nI (y % 7)) sf
def gv81_96_L_acts (hf : Nat → Int32) (f : Nat → Int32) (se : Nat → Int32) (sse : Nat → Nat → Int32) (y : Nat) : Nat → Nat → Int32 := fw_sse_X5_turbines hf f se (nI (y % 7)) sse
def gv81_97_L_acts (hf : Nat → Int32) (f : Nat → Int32) (to : Nat → Int32) (sto : Nat → Nat → Int32) (y : Nat) : Nat → Nat → Int32 := fw_sto_X5_turbines hf f to (nI (y % 7)) sto
def gv81_98_L_acts (hf : Nat → Int32) (f : Nat → Int32) (re : Nat → Int32) (sre : Nat → Nat → Int32) (y : Nat) : Nat → Nat → Int32 := fw_sre_X5_turbines hf f re (nI (y % 7)) sre
def gv81_99_L_acts (f : Nat → Int32) (y : Nat) : Nat → Int32 := sw19_X5_turbines f (nI (y % 7))
def gv81_100_L_acts (f : Nat → Int32) (se : Nat → Int32) (y : Nat) : Nat → Int32 := sw20_X5_turbines f se (nI (y % 7))
def gv81_101_L_acts (f : Nat → Int32) (to : Nat → Int32) (y : Nat) : Nat → Int32 := sw21_X5_turbines f to (nI (y % 7))
def gv81_102_L_acts (f : Nat → Int32) (re : Nat → Int32) (y : Nat) : Nat → Int32 := sw22_X5_turbines f re (nI (y % 7))
def gv81_103_L_acts (f : Nat → Int32) (y : Nat) : Nat → Int32 := sw26_X5_turbines f (nI (y % 7))
def gv81_104_L_acts (se : Nat → Int32) : Nat → Int32 := sw27_X5_turbines se
def gv81_105_L_acts (to : Nat → Int32) : Nat → Int32 := sw28_X5_turbines to
def gv81_106_L_acts (re : Nat → Int32) : Nat → Int32 := sw29_X5_turbines re
def gv43_107_L_acts (hf : Nat → Int32) (f : Nat → Int32) (y : Nat) : Nat → Int32 := sw1_X5_gates hf f (nI (y % 9))
def gv43_108_L_acts (hf : Nat → Int32) (f : Nat → Int32) (sf : Nat → Nat → Int32) (y : Nat) : Nat → Nat → Int32 := fw_sf_X5_gates hf f (nI (y % 9)) sf
def gv43_109_L_acts (hf : Nat → Int32) (f : Nat → Int32) (se : Nat → Int32) (sse : Nat → Nat → Int32) (y : Nat) : Nat → Nat → Int32 := fw_sse_X5_gates hf f se (nI (y % 9)) sse
def gv43_110_L_acts (hf : Nat → Int32) (f : Nat → Int32) (to : Nat → Int32) (sto : Nat → Nat → Int32) (y : Nat) : Nat → Nat → Int32 := fw_sto_X5_gates hf f to (nI (y % 9)) sto
def gv43_111_L_acts (hf : Nat → Int32) (f : Nat → Int32) (re : Nat → Int32) (sre : Nat → Nat → Int32) (y : Nat) : Nat → Nat → Int32 := fw_sre_X5_gates hf f re (nI (y % 9)) sre
def gv43_112_L_acts (f : Nat → Int32) (y : Nat) : Nat → Int32 := sw19_X5_gates f (nI (y % 9))
def gv43_113_L_acts (f : Nat → Int32) (se : Nat → Int32) (y : Nat) : Nat → Int32 := sw20_X5_gates f se (nI (y % 9))
def gv43_114_L_acts (f : Nat → Int32) (to : Nat → Int32) (y : Nat) : Nat → Int32 := sw21_X5_gates f to (nI (y % 9))
def gv43_115_L_acts (f : Nat → Int32) (re : Nat → Int32) (y : Nat) : Nat → Int32 := sw22_X5_gates f re (nI (y % 9))
def gv43_116_L_acts (f : Nat → Int32) (y : Nat) : Nat → Int32 := sw26_X5_gates f (nI (y % 9))
def gv43_117_L_acts (se : Nat → Int32) : Nat → Int32 := sw27_X5_gates se
def gv43_118_L_acts (to : Nat → Int32) : Nat → Int32 := sw28_X5_gates to
def gv43_119_L_acts (re : Nat → Int32) : Nat → Int32 := sw29_X5_gates re
theorem m5_e (y : Nat) : j240_0_L_acts y = nI (m5 y) := sel (a := y % 3) (by omega) 20000 300
theorem m6_e (y : Nat) : j388_0_L_acts y = nI (m6 y) := sel (a := y % 2) (by omega) 9999 900
theorem m7_e (y : Nat) : j433_0_L_acts y = nI (m7 y) := sel (a := y % 4) (by omega) 300 40
theorem m5_nz (y : Nat) : ¬ j240_0_L_acts y = 0 := by rw [m5_e]; exact nI_ne0 (by have := m5_b y; omega) (m5_b y).2.1
theorem m6_nz (y : Nat) : ¬ j388_0_L_acts y = 0 := by rw [m6_e]; exact nI_ne0 (by have := m6_b y; omega) (m6_b y).2.1
theorem m7_nz (y : Nat) : ¬ j433_0_L_acts y = 0 := by rw [m7_e]; exact nI_ne0 (by have := m7_b y; omega) (m7_b y).2.1
theorem set_v (y : Nat) : ∃ a, j390_0_L_acts y = nI a ∧ (if y % 3 = 1 then 0 else 1) ≤ a ∧ a ≤ (if y % 3 = 2 then 9999 else 400) := by
  unfold j390_0_L_acts
  have h3 := Nat.mod_lt y (show 0 < 3 by decide)
  by_cases c : y % 3 = 0
  · rw [if_pos (by rw [c]; rfl), if_neg (by omega), if_neg (by omega)]
    exact ⟨_, rfl, by omega, by omega⟩
  · rw [if_neg (nI_ne0 (by omega) (by omega))]
    by_cases c2 : y % 3 = 1
    · rw [if_pos (by rw [c2]; rfl), if_pos c2, if_neg (by omega)]
      exact ⟨_, rfl, by omega, by omega⟩
    · have c3 : y % 3 = 2 := by omega
      rw [if_neg (by rw [c3]; decide), if_neg c2, if_pos c3]
      have := m6_b y
      have := Nat.mod_lt (y / 3) (m6_b y).1
      exact ⟨_, rfl, by omega, by omega⟩
theorem s_setv {f se to re tf g r d : Nat → Int32} {y : Nat} (h : PQ f se to re tf g r d) (hy : y < 10000000) : sr_X5_set se (nI (y % 3)) (j390_0_L_acts y) = g (8 + y % 3) ∧ PQ (sw19_X5_set f se (nI (y % 3)) (j390_0_L_acts y)) (sw20_X5_set se (nI (y % 3)) (j390_0_L_acts y)) (sw21_X5_set se to (nI (y % 3)) (j390_0_L_acts y)) (sw22_X5_set se re (nI (y % 3)) (j390_0_L_acts y)) tf (upd g (8 + y % 3) (j390_0_L_acts y)) r d := by
  obtain ⟨a, h1, h2, h3⟩ := set_v y
  exact s_set h (Nat.mod_lt y (by decide)) h1 h2 h3
