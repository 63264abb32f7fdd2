/-! the model: what reading and orders leave as it was -/
theorem upd_ne {f : Nat → Int32} {k j : Nat} {v : Int32} (h : ¬ j = k) : upd f k v j = f j := by unfold upd; rw [if_neg h]
theorem upd_eq {f : Nat → Int32} {k : Nat} {v : Int32} : upd f k v k = v := by unfold upd; rw [if_pos rfl]
theorem weighs_ne {mf ms : Nat → Int32} {k : Nat} (hk : k < 3 ∨ 10 ≤ k) : sw0_X6_weighs mf ms k = mf k := by
  have u : ∀ (f : Nat → Int32) (j : Nat) (v : Int32), 3 ≤ j → j < 10 → upd f j v k = f k := fun f j v h1 h2 => upd_ne (by omega)
  unfold sw0_X6_weighs
  repeat' split
  all_goals (repeat rw [u _ _ _ (by omega) (by omega)])
theorem tick_ne {mf ms : Nat → Int32} {k : Nat} (hk : k < 3 ∨ 10 ≤ k) : sw0_X6_tick mf ms k = mf k := by
  unfold sw0_X6_tick gv1_1_X6_tick
  exact weighs_ne hk
theorem mtl_ne {k : Nat} (hk : k < 3 ∨ 10 ≤ k) : ∀ (n : Nat) (x : mtu), (mtl n x).1 k = x.1 k
  | 0, _ => rfl
  | n + 1, x => by
    rw [mtl, mtl_ne hk n (mtS x)]
    unfold mtS
    dsimp only
    exact tick_ne hk
theorem chF_ne {mf : Nat → Int32} {k : Nat} (hk : ¬ k = 0) : chF mf k = mf k := by
  unfold chF
  split
  · split
    · rw [upd_ne hk, upd_ne hk]
    · rw [upd_ne hk]
  · rfl
theorem cq_eq {mf mg : Nat → Int32} (h : cq mf) (h1 : mg 0 = mf 0) : cq mg := by unfold cq; rw [h1]; exact h
/-- reading moves the spot on, and nothing else but the order -/
def tm (mf mg : Nat → Int32) : Prop := tq mg ∧ (∀ k : Nat, ¬ k = 10 → ¬ k = 15 → mg k = mf k) ∧ sp mf ≤ sp mg
theorem tm_rf {mf : Nat → Int32} (h : tq mf) : tm mf mf := ⟨h, fun _ _ _ => rfl, Nat.le_refl _⟩
theorem tm_tr {a b c : Nat → Int32} (h : tm a b) (h2 : tm b c) : tm a c := ⟨h2.1, fun k k1 k2 => (h2.2.1 k k1 k2).trans (h.2.1 k k1 k2), Nat.le_trans h.2.2 h2.2.2⟩
theorem sp_inc {mf : Nat → Int32} (h : tq mf) (h0 : ¬ mf 2 ≤ mf 10) : sp (upd mf 10 (mf 10 + 1)) = sp mf + 1 := by
  obtain ⟨h1, h2⟩ := tq_ix h h0
  show (mf 10 + 1).toNatClampNeg = _
  rw [h1, nI_1, nI_clamp (by omega)]
theorem tm_inc {mf : Nat → Int32} (h : tq mf) (h0 : ¬ mf 2 ≤ mf 10) : tm mf (upd mf 10 (mf 10 + 1)) := ⟨tq_inc h h0, fun k k1 _ => upd_ne k1, by rw [sp_inc h h0]; omega⟩
theorem tm_sign {mf mx : Nat → Int32} {a : Int32} (h : tq mf) : tm mf (sw0_X6_sign mf mx a) := by
  show tm mf (upd mf 10 (mf 10 + (if sr_X6_isAt mf mx a a = 0 then 0 else 1)))
  split
  · rw [Int32.add_zero]
    exact ⟨tq_eq h rfl rfl, fun k k1 _ => upd_ne k1, Nat.le_refl _⟩
  · rename_i h1
    exact tm_inc h (isAt_lt h1)
theorem tm_nb {mx : Nat → Int32} {w : Nat} : ∀ (n : Nat) (x : nbu), tq x.1 → tm x.1 (nbL mx w n x).1
  | 0, _, h => tm_rf h
  | n + 1, x, h => by
    by_cases c : sr_X6_isAt x.1 mx 48 57 = 0
    · rw [nb_a c]; exact tm_rf h
    · rw [nb_b c]; exact tm_tr (tm_inc h (isAt_lt c)) (tm_nb n (nbS mx w x) (tq_inc h (isAt_lt c)))
theorem tm_nbX {mf mx md : Nat → Int32} {w : Nat} (h : tq mf) : tm mf (nbX mf mx md w).1 := tm_nb 3 _ h
theorem rd_ord {mf mx : Nat → Int32} (h : ¬ sr_X6_numbersOf (j25_0_X6_reads mf mx) = 0) : ¬ mf 2 ≤ mf 10 := isAt_lt (fun c => h (by unfold j25_0_X6_reads; rw [if_pos c]; rfl))
def rd1 (mf mx : Nat → Int32) : Nat → Int32 := upd (upd mf 15 (j25_0_X6_reads mf mx)) 10 (mf 10 + 1)
theorem rd1_tm {mf mx : Nat → Int32} (hs : tq mf) (h : ¬ sr_X6_numbersOf (j25_0_X6_reads mf mx) = 0) : tm mf (rd1 mf mx) ∧ sp (rd1 mf mx) = sp mf + 1 := by
  have e : sp (rd1 mf mx) = sp mf + 1 := sp_inc hs (rd_ord h)
  exact ⟨⟨tq_eq (tq_inc hs (rd_ord h)) rfl rfl, fun k k1 k2 => by unfold rd1; rw [upd_ne k1, upd_ne k2], by rw [e]; omega⟩, e⟩
theorem rd_tm {mf mx md : Nat → Int32} (hs : tq mf) : tm mf (sw0_X6_reads mf mx md) ∧ (¬ sr_X6_reads mf mx md = 0 → sp mf + 1 ≤ sp (sw0_X6_reads mf mx md)) := by
  unfold sw0_X6_reads sr_X6_reads
  by_cases c : sr_X6_numbersOf (j25_0_X6_reads mf mx) = 0
  · rw [if_pos c, if_pos c]
    exact ⟨⟨tq_eq hs rfl rfl, fun k _ k2 => upd_ne k2, Nat.le_refl _⟩, fun h => absurd rfl h⟩
  · rw [if_neg c, if_neg c]
    obtain ⟨h1, h2⟩ := rd1_tm hs c
    have g1 : tm (rd1 mf mx) (gv54_1_X6_reads mf mx md) := tm_nbX h1.1
    have g2 : tm (gv54_1_X6_reads mf mx md) (gv70_4_X6_reads mf mx md) := tm_sign g1.1
    have g3 : tm (gv70_4_X6_reads mf mx md) (gv78_5_X6_reads mf mx md) := tm_nbX g2.1
    have g4 : tm (gv78_5_X6_reads mf mx md) (gv97_7_X6_reads mf mx md) := tm_sign g3.1
    have g5 : tm (gv54_1_X6_reads mf mx md) (gv97_3_X6_reads mf mx md) := tm_sign g1.1
    have key : ∀ g : Nat → Int32, tm (rd1 mf mx) g → ∀ z : Int32, tm mf g ∧ (¬ z = 0 → sp mf + 1 ≤ sp g) := fun g hg z => ⟨tm_tr h1 hg, fun _ => by rw [← h2]; exact hg.2.2⟩
    by_cases c2 : sr_X6_numbered (upd (upd mf 15 (j25_0_X6_reads mf mx)) 10 (mf 10 + 1)) mx md 0 = 0
    · rw [if_pos c2, if_pos c2]; exact key _ g1 _
    · rw [if_neg c2, if_neg c2]
      by_cases c3 : sr_X6_numbersOf (j25_0_X6_reads mf mx) = 2
      · rw [if_pos c3, if_pos c3]
        by_cases c4 : sr_X6_sign (gv54_1_X6_reads mf mx md) mx 44 = 0
        · rw [if_pos c4, if_pos c4]; exact key _ (tm_tr g1 g2) _
        · rw [if_neg c4, if_neg c4]
          by_cases c5 : sr_X6_numbered (gv70_4_X6_reads mf mx md) mx (gv54_2_X6_reads mf mx md) 1 = 0
          · rw [if_pos c5, if_pos c5]; exact key _ (tm_tr (tm_tr g1 g2) g3) _
          · rw [if_neg c5, if_neg c5]; exact key _ (tm_tr (tm_tr (tm_tr g1 g2) g3) g4) _
      · rw [if_neg c3, if_neg c3]; exact key _ (tm_tr g1 g5) _
/-- what an order's call leaves as it was: its own numbers, but the count of the past -/
theorem calls_f {mf ms mp md : Nat → Int32} (hc : cq mf) : cq (sw0_X6_calls mf ms md) ∧ (∀ k : Nat, ¬ k = 0 → (k < 3 ∨ 10 ≤ k) → sw0_X6_calls mf ms md k = mf k) ∧ (¬ mf 1 = 0 → sw0_X6_calls mf ms md 0 = mf 0 ∧ sw2_X6_calls mf ms mp md = mp) := by
  have r1 : cq mf ∧ (∀ k : Nat, ¬ k = 0 → (k < 3 ∨ 10 ≤ k) → mf k = mf k) ∧ (¬ mf 1 = 0 → mf 0 = mf 0 ∧ mp = mp) := ⟨hc, fun _ _ _ => rfl, fun _ => ⟨rfl, rfl⟩⟩
  have r2 : cq (chF mf) ∧ (∀ k : Nat, ¬ k = 0 → (k < 3 ∨ 10 ≤ k) → chF mf k = mf k) ∧ (¬ mf 1 = 0 → chF mf 0 = mf 0 ∧ chP mf ms mp = mp) := ⟨chF_cq hc, fun _ k1 _ => chF_ne k1, fun h => ⟨by unfold chF; rw [if_neg h], by unfold chP; rw [if_neg h]⟩⟩
  unfold sw0_X6_calls sw2_X6_calls
  by_cases c1 : mf 15 = 98
  · simp only [if_pos c1]
    show cq (sw0_X6_birds mf (md 0) (md 1)) ∧ (∀ k : Nat, ¬ k = 0 → (k < 3 ∨ 10 ≤ k) → sw0_X6_birds mf (md 0) (md 1) k = mf k) ∧ (¬ mf 1 = 0 → sw0_X6_birds mf (md 0) (md 1) 0 = mf 0 ∧ sw2_X6_birds mf ms mp (md 0) (md 1) = mp)
    unfold sw0_X6_birds sw2_X6_birds
    split
    · exact r1
    · split
      · exact r1
      · exact r2
  · simp only [if_neg c1]
    by_cases c2 : mf 15 = 103
    · simp only [if_pos c2]
      show cq (sw0_X6_gates mf (md 0)) ∧ (∀ k : Nat, ¬ k = 0 → (k < 3 ∨ 10 ≤ k) → sw0_X6_gates mf (md 0) k = mf k) ∧ (¬ mf 1 = 0 → sw0_X6_gates mf (md 0) 0 = mf 0 ∧ sw2_X6_gates mf ms mp (md 0) = mp)
      unfold sw0_X6_gates sw2_X6_gates
      split
      · exact r1
      · exact r2
    · simp only [if_neg c2]
      by_cases c3 : mf 15 = 112
      · simp only [if_pos c3]
        show cq (sw0_X6_pump mf (md 0)) ∧ (∀ k : Nat, ¬ k = 0 → (k < 3 ∨ 10 ≤ k) → sw0_X6_pump mf (md 0) k = mf k) ∧ (¬ mf 1 = 0 → sw0_X6_pump mf (md 0) 0 = mf 0 ∧ sw2_X6_pump mf ms mp (md 0) = mp)
        unfold sw0_X6_pump sw2_X6_pump
        split
        · exact r1
        · exact r2
      · simp only [if_neg c3]
        by_cases c4 : mf 15 = 113
        · simp only [if_pos c4]
          show cq (sw0_X6_pump mf (-(md 0))) ∧ (∀ k : Nat, ¬ k = 0 → (k < 3 ∨ 10 ≤ k) → sw0_X6_pump mf (-(md 0)) k = mf k) ∧ (¬ mf 1 = 0 → sw0_X6_pump mf (-(md 0)) 0 = mf 0 ∧ sw2_X6_pump mf ms mp (-(md 0)) = mp)
          unfold sw0_X6_pump sw2_X6_pump
          split
          · exact r1
          · exact r2
        · simp only [if_neg c4]
          by_cases c5 : mf 15 = 116
          · simp only [if_pos c5]
            show cq (sw0_X6_turbines mf (md 0)) ∧ (∀ k : Nat, ¬ k = 0 → (k < 3 ∨ 10 ≤ k) → sw0_X6_turbines mf (md 0) k = mf k) ∧ (¬ mf 1 = 0 → sw0_X6_turbines mf (md 0) 0 = mf 0 ∧ sw2_X6_turbines mf ms mp (md 0) = mp)
            unfold sw0_X6_turbines sw2_X6_turbines
            split
            · exact r1
            · exact r2
          · simp only [if_neg c5]
            show cq (sw0_X6_run mf ms (md 0)) ∧ (∀ k : Nat, ¬ k = 0 → (k < 3 ∨ 10 ≤ k) → sw0_X6_run mf ms (md 0) k = mf k) ∧ (¬ mf 1 = 0 → sw0_X6_run mf ms (md 0) 0 = mf 0 ∧ sw2_X6_run mf ms mp (md 0) = mp)
            unfold sw0_X6_run sw2_X6_run
            split
            · exact r1
            · split
              · refine ⟨cq_eq r2.1 (mtl_ne (by omega) _ _), fun k k1 k2 => (mtl_ne k2 _ _).trans (chF_ne k1), fun h => ⟨(mtl_ne (by omega) _ _).trans (r2.2.2 h).1, (r2.2.2 h).2⟩⟩
              · exact r1
theorem calls_mq {mf ms md : Nat → Int32} (hq : mq ms) : mq (sw1_X6_calls mf ms md) := by
  unfold sw1_X6_calls
  split
  · show mq (sw1_X6_birds ms (md 0) (md 1))
    unfold sw1_X6_birds
    split
    · exact hq
    · split
      · exact hq
      · exact mq_upd (mq_upd hq (by decide)) (by decide)
  · split
    · show mq (sw1_X6_gates ms (md 0))
      unfold sw1_X6_gates
      split
      · exact hq
      · exact mq_upd hq (by decide)
    · split
      · show mq (sw1_X6_pump ms (md 0))
        unfold sw1_X6_pump
        split
        · exact hq
        · exact mq_upd hq (by decide)
      · split
        · show mq (sw1_X6_pump ms (-(md 0)))
          unfold sw1_X6_pump
          split
          · exact hq
          · exact mq_upd hq (by decide)
        · split
          · show mq (sw1_X6_turbines ms (md 0))
            unfold sw1_X6_turbines
            split
            · exact hq
            · exact mq_upd hq (by decide)
          · show mq (sw1_X6_run mf ms (md 0))
            unfold sw1_X6_run
            split
            · exact hq
            · split
              · exact mtl_mq _ _ hq
              · exact hq
