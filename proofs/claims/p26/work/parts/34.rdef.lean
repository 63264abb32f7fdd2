/-! the law's ticks: what a turn makes of its rows -/
def ix1 (x : Int32) : Nat := if x ≤ 0 then 14 else 13
def ix2 (x : Int32) : Nat := if x ≤ 0 then 17 else 16
theorem ix1_eq (x : Int32) : (if x ≤ 0 then (14 : Int32) else 13) = nI (ix1 x) := by unfold ix1; split <;> rfl
theorem ix2_eq (x : Int32) : (if x ≤ 0 then (17 : Int32) else 16) = nI (ix2 x) := by unfold ix2; split <;> rfl
theorem ix1_lt (x : Int32) : ix1 x < 18 := by unfold ix1; split <;> decide
theorem ix2_lt (x : Int32) : ix2 x < 18 := by unfold ix2; split <;> decide
theorem tdiv {x : Int32} {t : Nat} (h : x = nI t) (ht : t < 2 ^ 31) : x / 144 = nI (t / 144) := by rw [h, show (144 : Int32) = nI 144 from rfl, pk_div ht (by decide) (by decide)]
theorem trem {d : Nat} (hd : d < 2 ^ 31) : nI d - nI d / 10 * 10 = nI (d % 10) := by rw [show (10 : Int32) = nI 10 from rfl, pk_rem hd (by decide) (by decide)]
theorem tmul (d : Nat) : nI d * 6 = nI (d * 6) := pk_mul d 6
def gv18_1_L_run (gi : Nat → Int32) (wi : Nat → Int32) : Nat → Int32 := sw1_L_weigh gi wi
def xv46_2_L_run (gi : Nat → Int32) : Int32 := (gi 0) + 1
def xv56_3_L_run (gi : Nat → Int32) (wi : Nat → Int32) : Int32 := (gi 1) + ((gv18_1_L_run gi wi) 3)
def xv67_4_L_run (gi : Nat → Int32) (wi : Nat → Int32) : Int32 := (gi 2) + ((gv18_1_L_run gi wi) 6)
def xv78_5_L_run (gi : Nat → Int32) (wi : Nat → Int32) : Int32 := (gi 11) + ((gv18_1_L_run gi wi) 4)
def xv89_6_L_run (gi : Nat → Int32) (wi : Nat → Int32) : Int32 := (gi 12) + ((gv18_1_L_run gi wi) 5)
def j105_0_L_run (gi : Nat → Int32) (wi : Nat → Int32) : Int32 := if ((gv18_1_L_run gi wi) 3) ≤ 0 then 14 else 13
def xv115_7_L_run (gi : Nat → Int32) (wi : Nat → Int32) : Int32 := ((upd (upd (upd (upd (upd gi 0 (xv46_2_L_run gi)) 1 (xv56_3_L_run gi wi)) 2 (xv67_4_L_run gi wi)) 11 (xv78_5_L_run gi wi)) 12 (xv89_6_L_run gi wi)) (ix1 ((gv18_1_L_run gi wi) 3))) + (sr_L_size ((gv18_1_L_run gi wi) 3))
def j132_0_L_run (gi : Nat → Int32) (wi : Nat → Int32) : Int32 := if ((gv18_1_L_run gi wi) 6) ≤ 0 then 17 else 16
def xv143_8_L_run (gi : Nat → Int32) (wi : Nat → Int32) : Int32 := ((upd (upd (upd (upd (upd (upd gi 0 (xv46_2_L_run gi)) 1 (xv56_3_L_run gi wi)) 2 (xv67_4_L_run gi wi)) 11 (xv78_5_L_run gi wi)) 12 (xv89_6_L_run gi wi)) (ix1 ((gv18_1_L_run gi wi) 3)) (xv115_7_L_run gi wi)) (ix2 ((gv18_1_L_run gi wi) 6))) + (sr_L_size ((gv18_1_L_run gi wi) 6))
def j161_0_L_run (t : Nat) (di : Nat → Int32) : Int32 := if (di (t / 144 % 10)) = (nI (t / 144)) then 0 else 1
def xv171_9_L_run (t : Nat) : Int32 := nI (t / 144)
def j192_0_L_run (t : Nat) (ri : Nat → Int32) (di : Nat → Int32) : Int32 := if (j161_0_L_run t di) = 0 then ri (t / 144 % 10 * 6) else 0
def xv193_10_L_run (t : Nat) (gi : Nat → Int32) (ri : Nat → Int32) (di : Nat → Int32) (wi : Nat → Int32) : Int32 := ((gv18_1_L_run gi wi) 4) + (j192_0_L_run t ri di)
def j218_0_L_run (t : Nat) (gi : Nat → Int32) (ri : Nat → Int32) (di : Nat → Int32) (wi : Nat → Int32) : Int32 := if (j161_0_L_run t di) = 0 then (upd ri (t / 144 % 10 * 6) (xv193_10_L_run t gi ri di wi)) ((t / 144 % 10 * 6) + 1) else 0
def xv219_11_L_run (t : Nat) (gi : Nat → Int32) (ri : Nat → Int32) (di : Nat → Int32) (wi : Nat → Int32) : Int32 := ((gv18_1_L_run gi wi) 5) + (j218_0_L_run t gi ri di wi)
def j256_0_L_run (t : Nat) (gi : Nat → Int32) (ri : Nat → Int32) (di : Nat → Int32) (wi : Nat → Int32) : Int32 := if (j161_0_L_run t di) = 0 then if (sr_L_level (upd (upd (upd (upd (upd (upd (upd gi 0 (xv46_2_L_run gi)) 1 (xv56_3_L_run gi wi)) 2 (xv67_4_L_run gi wi)) 11 (xv78_5_L_run gi wi)) 12 (xv89_6_L_run gi wi)) (ix1 ((gv18_1_L_run gi wi) 3)) (xv115_7_L_run gi wi)) (ix2 ((gv18_1_L_run gi wi) 6)) (xv143_8_L_run gi wi))) ≤ ((upd ri (t / 144 % 10 * 6) (xv193_10_L_run t gi ri di wi)) ((t / 144 % 10 * 6) + 2)) then (upd ri (t / 144 % 10 * 6) (xv193_10_L_run t gi ri di wi)) ((t / 144 % 10 * 6) + 2) else sr_L_level (upd (upd (upd (upd (upd (upd (upd gi 0 (xv46_2_L_run gi)) 1 (xv56_3_L_run gi wi)) 2 (xv67_4_L_run gi wi)) 11 (xv78_5_L_run gi wi)) 12 (xv89_6_L_run gi wi)) (ix1 ((gv18_1_L_run gi wi) 3)) (xv115_7_L_run gi wi)) (ix2 ((gv18_1_L_run gi wi) 6)) (xv143_8_L_run gi wi)) else sr_L_level (upd (upd (upd (upd (upd (upd (upd gi 0 (xv46_2_L_run gi)) 1 (xv56_3_L_run gi wi)) 2 (xv67_4_L_run gi wi)) 11 (xv78_5_L_run gi wi)) 12 (xv89_6_L_run gi wi)) (ix1 ((gv18_1_L_run gi wi) 3)) (xv115_7_L_run gi wi)) (ix2 ((gv18_1_L_run gi wi) 6)) (xv143_8_L_run gi wi))
def xv256_12_L_run (t : Nat) (gi : Nat → Int32) (ri : Nat → Int32) (di : Nat → Int32) (wi : Nat → Int32) : Int32 := j256_0_L_run t gi ri di wi
def j293_0_L_run (t : Nat) (gi : Nat → Int32) (ri : Nat → Int32) (di : Nat → Int32) (wi : Nat → Int32) : Int32 := if (j161_0_L_run t di) = 0 then if ((upd ri (t / 144 % 10 * 6) (xv193_10_L_run t gi ri di wi)) ((t / 144 % 10 * 6) + 3)) ≤ (sr_L_level (upd (upd (upd (upd (upd (upd (upd gi 0 (xv46_2_L_run gi)) 1 (xv56_3_L_run gi wi)) 2 (xv67_4_L_run gi wi)) 11 (xv78_5_L_run gi wi)) 12 (xv89_6_L_run gi wi)) (ix1 ((gv18_1_L_run gi wi) 3)) (xv115_7_L_run gi wi)) (ix2 ((gv18_1_L_run gi wi) 6)) (xv143_8_L_run gi wi))) then (upd ri (t / 144 % 10 * 6) (xv193_10_L_run t gi ri di wi)) ((t / 144 % 10 * 6) + 3) else sr_L_level (upd (upd (upd (upd (upd (upd (upd gi 0 (xv46_2_L_run gi)) 1 (xv56_3_L_run gi wi)) 2 (xv67_4_L_run gi wi)) 11 (xv78_5_L_run gi wi)) 12 (xv89_6_L_run gi wi)) (ix1 ((gv18_1_L_run gi wi) 3)) (xv115_7_L_run gi wi)) (ix2 ((gv18_1_L_run gi wi) 6)) (xv143_8_L_run gi wi)) else sr_L_level (upd (upd (upd (upd (upd (upd (upd gi 0 (xv46_2_L_run gi)) 1 (xv56_3_L_run gi wi)) 2 (xv67_4_L_run gi wi)) 11 (xv78_5_L_run gi wi)) 12 (xv89_6_L_run gi wi)) (ix1 ((gv18_1_L_run gi wi) 3)) (xv115_7_L_run gi wi)) (ix2 ((gv18_1_L_run gi wi) 6)) (xv143_8_L_run gi wi))
def xv293_13_L_run (t : Nat) (gi : Nat → Int32) (ri : Nat → Int32) (di : Nat → Int32) (wi : Nat → Int32) : Int32 := j293_0_L_run t gi ri di wi
def j314_0_L_run (gi : Nat → Int32) (wi : Nat → Int32) : Int32 := if ((gv18_1_L_run gi wi) 3) ≤ 0 then 0 else (gv18_1_L_run gi wi) 3
def j329_0_L_run (t : Nat) (gi : Nat → Int32) (ri : Nat → Int32) (di : Nat → Int32) (wi : Nat → Int32) : Int32 := if (j161_0_L_run t di) = 0 then (upd ri (t / 144 % 10 * 6) (xv193_10_L_run t gi ri di wi)) ((t / 144 % 10 * 6) + 4) else 0
def xv330_14_L_run (t : Nat) (gi : Nat → Int32) (ri : Nat → Int32) (di : Nat → Int32) (wi : Nat → Int32) : Int32 := (j314_0_L_run gi wi) + (j329_0_L_run t gi ri di wi)
def j352_0_L_run (gi : Nat → Int32) (wi : Nat → Int32) : Int32 := if 0 ≤ ((gv18_1_L_run gi wi) 3) then 0 else -((gv18_1_L_run gi wi) 3)
def j367_0_L_run (t : Nat) (gi : Nat → Int32) (ri : Nat → Int32) (di : Nat → Int32) (wi : Nat → Int32) : Int32 := if (j161_0_L_run t di) = 0 then (upd ri (t / 144 % 10 * 6) (xv193_10_L_run t gi ri di wi)) ((t / 144 % 10 * 6) + 5) else 0
def xv368_15_L_run (t : Nat) (gi : Nat → Int32) (ri : Nat → Int32) (di : Nat → Int32) (wi : Nat → Int32) : Int32 := (j352_0_L_run gi wi) + (j367_0_L_run t gi ri di wi)
def tG (gi : Nat → Int32) (wi : Nat → Int32) : Nat → Int32 := upd (upd (upd (upd (upd (upd (upd gi 0 (xv46_2_L_run gi)) 1 (xv56_3_L_run gi wi)) 2 (xv67_4_L_run gi wi)) 11 (xv78_5_L_run gi wi)) 12 (xv89_6_L_run gi wi)) (ix1 ((gv18_1_L_run gi wi) 3)) (xv115_7_L_run gi wi)) (ix2 ((gv18_1_L_run gi wi) 6)) (xv143_8_L_run gi wi)
def tR (t : Nat) (gi : Nat → Int32) (ri : Nat → Int32) (di : Nat → Int32) (wi : Nat → Int32) : Nat → Int32 := upd (upd (upd (upd (upd (upd ri (t / 144 % 10 * 6) (xv193_10_L_run t gi ri di wi)) ((t / 144 % 10 * 6) + 1) (xv219_11_L_run t gi ri di wi)) ((t / 144 % 10 * 6) + 2) (xv256_12_L_run t gi ri di wi)) ((t / 144 % 10 * 6) + 3) (xv293_13_L_run t gi ri di wi)) ((t / 144 % 10 * 6) + 4) (xv330_14_L_run t gi ri di wi)) ((t / 144 % 10 * 6) + 5) (xv368_15_L_run t gi ri di wi)
def tD (t : Nat) (di : Nat → Int32) : Nat → Int32 := upd di (t / 144 % 10) (xv171_9_L_run t)
def tW (gi : Nat → Int32) (wi : Nat → Int32) : Nat → Int32 := (gv18_1_L_run gi wi)
