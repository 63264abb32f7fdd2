/-! records: the model's rows by day, the class's ring -/
def nd (T : Nat) : Nat := (T + 143) / 144
def nr (T : Nat) : Nat := if nd T ≤ 10 then nd T else 10
theorem nr_le (T : Nat) : nr T ≤ 10 ∧ nr T ≤ nd T := by unfold nr; split <;> omega
/-- c days had a tick, n of them are kept; re by the day modulo 10 -/
def RC (c n : Nat) (re ms : Nat → Int32) : Prop := ms 18 = nI n ∧ (∀ k, k < n → ms (19 + 7 * k) = nI (c - n + k)) ∧ (∀ k, k < n → ∀ j, j < 6 → ms (19 + 7 * k + (1 + j)) = re ((c - n + k) % 10 * 6 + j))
def RR (T : Nat) (re ms : Nat → Int32) : Prop := RC (nd T) (nr T) re ms
theorem rs_nI {d : Nat} (h : d < 2 ^ 31) : rs (nI d) = d % 10 * 6 := by
  unfold rs sr_X5_recordStart sr_J9_floorMod_7cf53
  rw [show (10 : Int32) = nI 10 from rfl, if_pos ((ag_xor_sign (nI d) (by decide)).mpr (nI_pos' h)), pk_rem h (by decide) (by decide), show (6 : Int32) = nI 6 from rfl, pk_mul, nI_clamp (by omega)]
theorem rK_in {ms : Nat → Int32} {D : Nat} (hD : D < 2 ^ 31) {j : Nat} : ∀ (n i : Nat), i ≤ j → j < i + n → ms (19 + 7 * j) = nI D → (∀ k, i ≤ k → k < j → ∃ e, ms (19 + 7 * k) = nI e ∧ e < 2 ^ 31 ∧ e ≠ D) → rK ms (nI D) n i = j
  | 0, i, h1, h2, _, _ => by omega
  | n + 1, i, h1, h2, h3, h4 => by
    unfold rK
    by_cases c : i = j
    · rw [c, if_pos h3]
    · obtain ⟨e, e1, e2, e3⟩ := h4 i (by omega) (by omega)
      rw [if_neg (by rw [e1, nI_eq e2 hD]; exact e3)]
      exact rK_in hD n (i + 1) (by omega) (by omega) h3 (fun k k1 k2 => h4 k (by omega) k2)
theorem rK_out {ms : Nat → Int32} {D : Nat} (hD : D < 2 ^ 31) : ∀ (n i : Nat), (∀ k, i ≤ k → k < i + n → ∃ e, ms (19 + 7 * k) = nI e ∧ e < 2 ^ 31 ∧ e ≠ D) → rK ms (nI D) n i = i + n
  | 0, i, _ => rfl
  | n + 1, i, h => by
    unfold rK
    obtain ⟨e, e1, e2, e3⟩ := h i (by omega) (by omega)
    rw [if_neg (by rw [e1, nI_eq e2 hD]; exact e3), rK_out hD n (i + 1) (fun k k1 k2 => h k (by omega) (by omega))]
    omega
/-- a new record at a place -/
theorem op5_v {g : Nat → Int32} {d : Int32} {a : Nat} (h : 19 ≤ a) : (∀ k, k < 18 → op5 g d a k = g k) ∧ op5 g d a 18 = g 18 + 1 ∧ op5 g d a a = d ∧ (op5 g d a (a + 1) = 0 ∧ op5 g d a (a + 2) = 0 ∧ op5 g d a (a + 3) = sr_X6_level g ∧ op5 g d a (a + 4) = sr_X6_level g ∧ op5 g d a (a + 5) = 0 ∧ op5 g d a (a + 6) = 0) ∧ (∀ k, ¬ k = 18 → k < a ∨ a + 7 ≤ k → op5 g d a k = g k) := by
  have z1 : ∀ k, k ≤ a ∨ a + 7 ≤ k → opZ g d a k = upd g a d k := fun k hk => by unfold opZ zrf; rw [if_neg (by omega)]
  have z2 : ∀ k, a < k → k < a + 7 → opZ g d a k = 0 := fun k h1 h2 => by unfold opZ zrf; rw [if_pos ⟨h1, h2⟩]
  have l1 : sr_X6_level (opZ g d a) = sr_X6_level g := by
    unfold sr_X6_level
    rw [z1 1 (by omega), z1 2 (by omega), upd_ne (by omega), upd_ne (by omega)]
  have l2 : sr_X6_level (op3 g d a) = sr_X6_level g := by
    rw [← l1]
    unfold sr_X6_level op3
    rw [upd_ne (by omega), upd_ne (by omega)]
  have p : ∀ k, ¬ k = 18 → ¬ k = a + 3 → ¬ k = a + 4 → op5 g d a k = opZ g d a k := fun k k1 k2 k3 => by
    unfold op5 op4 op3
    rw [upd_ne k1, upd_ne k3, upd_ne k2]
  refine ⟨fun k hk => ?_, ?_, ?_, ⟨?_, ?_, ?_, ?_, ?_, ?_⟩, fun k k1 k2 => ?_⟩
  · rw [p k (by omega) (by omega) (by omega), z1 k (by omega), upd_ne (by omega)]
  · unfold op5 op4 op3
    rw [upd_eq, upd_ne (by omega), upd_ne (by omega), z1 18 (by omega), upd_ne (by omega)]
  · rw [p a (by omega) (by omega) (by omega), z1 a (by omega), upd_eq]
  · rw [p _ (by omega) (by omega) (by omega), z2 _ (by omega) (by omega)]
  · rw [p _ (by omega) (by omega) (by omega), z2 _ (by omega) (by omega)]
  · unfold op5 op4
    rw [upd_ne (by omega), upd_ne (by omega)]
    unfold op3
    rw [upd_eq, l1]
  · unfold op5 op4
    rw [upd_ne (by omega), upd_eq, l2]
  · rw [p _ (by omega) (by omega) (by omega), z2 _ (by omega) (by omega)]
  · rw [p _ (by omega) (by omega) (by omega), z2 _ (by omega) (by omega)]
  · rw [p k k1 (by omega) (by omega), z1 k (by omega), upd_ne (by omega)]
/-- what a day's record is when it is begun -/
def bg (re : Nat → Int32) (L : Int32) (T : Nat) : Nat → Int32 := if T % 144 = 0 then sw3_X1_beginRecord re L (T / 144 % 10 * 6) else re
theorem bg_v (re : Nat → Int32) (L : Int32) (q : Nat) : sw3_X1_beginRecord re L q (q + 0) = 0 ∧ sw3_X1_beginRecord re L q (q + 1) = 0 ∧ sw3_X1_beginRecord re L q (q + 2) = L ∧ sw3_X1_beginRecord re L q (q + 3) = L ∧ sw3_X1_beginRecord re L q (q + 4) = 0 ∧ sw3_X1_beginRecord re L q (q + 5) = 0 ∧ (∀ k, k < q ∨ q + 6 ≤ k → sw3_X1_beginRecord re L q k = re k) := by
  unfold sw3_X1_beginRecord
  refine ⟨?_, ?_, ?_, ?_, ?_, ?_, fun k hk => ?_⟩
  · rw [upd_ne (by omega), upd_ne (by omega), upd_ne (by omega), upd_ne (by omega), upd_ne (by omega), upd_eq]
  · rw [upd_ne (by omega), upd_ne (by omega), upd_ne (by omega), upd_ne (by omega), upd_eq]
  · rw [upd_ne (by omega), upd_ne (by omega), upd_ne (by omega), upd_eq]
  · rw [upd_ne (by omega), upd_ne (by omega), upd_eq]
  · rw [upd_ne (by omega), upd_eq]
  · rw [upd_eq]
  · rw [upd_ne (by omega), upd_ne (by omega), upd_ne (by omega), upd_ne (by omega), upd_ne (by omega), upd_ne (by omega)]
theorem six {P : Nat → Prop} (h0 : P 0) (h1 : P 1) (h2 : P 2) (h3 : P 3) (h4 : P 4) (h5 : P 5) : ∀ j, j < 6 → P j := fun j hj => by
  rcases j with _ | _ | _ | _ | _ | _ | j
  · exact h0
  · exact h1
  · exact h2
  · exact h3
  · exact h4
  · exact h5
  · omega
/-- opening the record of the day: it is the last; all stand as the ring has them -/
theorem op_rel {T : Nat} {re ms : Nat → Int32} (hT : T < 2 ^ 30) (h : RR T re ms) : opK ms (nI (T / 144)) (nr T) + 1 = nr (T + 1) ∧ (∀ k, k < 18 → opW ms (nI (T / 144)) (nr T) k = ms k) ∧ RR (T + 1) (bg re (sr_X6_level ms) T) (opW ms (nI (T / 144)) (nr T)) := by
  obtain ⟨h1, h2, h3⟩ := h
  have hn := nr_le T
  by_cases c : T % 144 = 0
  · have cd : nd T = T / 144 := by unfold nd; omega
    have cd2 : nd (T + 1) = T / 144 + 1 := by unfold nd; omega
    have hr : rK ms (nI (T / 144)) (nr T) 0 = 0 + nr T := rK_out (by omega) _ _ (fun k _ k2 => ⟨_, h2 k (by omega), by omega, by omega⟩)
    have hr2 : ¬ rK ms (nI (T / 144)) (nr T) 0 < nr T := by rw [hr]; omega
    unfold bg
    rw [if_pos c]
    obtain ⟨b0, b1, b2, b3, b4, b5, b6⟩ := bg_v re (sr_X6_level ms) (T / 144 % 10 * 6)
    unfold opK opW
    rw [if_neg hr2, if_neg hr2]
    by_cases c2 : nr T = 10
    · rw [if_pos c2, if_pos c2]
      have n2 : nr (T + 1) = 10 := by unfold nr at c2 ⊢; rw [cd] at c2; rw [cd2]; split <;> (split at c2 <;> omega)
      obtain ⟨o1, o2, o3, ⟨o4, o5, o6, o7, o8, o9⟩, o10⟩ := op5_v (g := opG ms) (d := nI (T / 144)) (a := 82) (by omega)
      have g1 : ∀ k, k < 18 → opG ms k = ms k := fun k hk => by unfold opG shf; rw [upd_ne (by omega), if_neg (by omega)]
      have g2 : opG ms 18 = nI 9 := by unfold opG shf; rw [upd_eq, if_neg (by omega), h1, c2]; rfl
      have g3 : ∀ k, 19 ≤ k → k < 82 → opG ms k = ms (k + 7) := fun k k1 k2 => by unfold opG shf; rw [upd_ne (by omega), if_pos (by omega)]
      have lv : sr_X6_level (opG ms) = sr_X6_level ms := by unfold sr_X6_level; rw [g1 1 (by omega), g1 2 (by omega)]
      refine ⟨by omega, fun k hk => (o1 k hk).trans (g1 k hk), ?_⟩
      unfold RR
      rw [n2, cd2]
      refine ⟨by rw [o2, g2]; rfl, fun k hk => ?_, fun k hk => ?_⟩
      · by_cases ck : k = 9
        · rw [ck]; exact o3.trans (congrArg nI (by omega))
        · rw [o10 _ (by omega) (by omega), g3 _ (by omega) (by omega), show 19 + 7 * k + 7 = 19 + 7 * (k + 1) by omega, h2 (k + 1) (by omega)]
          exact congrArg nI (by omega)
      · by_cases ck : k = 9
        · subst ck
          rw [show T / 144 + 1 - 10 + 9 = T / 144 by omega]
          exact six (o4.trans b0.symm) (o5.trans b1.symm) (o6.trans (lv.trans b2.symm)) (o7.trans (lv.trans b3.symm)) (o8.trans b4.symm) (o9.trans b5.symm)
        · intro j hj
          rw [o10 _ (by omega) (by omega), g3 _ (by omega) (by omega), show 19 + 7 * k + (1 + j) + 7 = 19 + 7 * (k + 1) + (1 + j) by omega, h3 (k + 1) (by omega) j hj, b6 _ (by omega)]
          exact congrArg re (by omega)
    · rw [if_neg c2, if_neg c2]
      have n1 : nr T = T / 144 := by unfold nr at c2 ⊢; rw [cd] at c2 ⊢; split <;> (split at c2 <;> omega)
      have n2 : nr (T + 1) = T / 144 + 1 := by unfold nr; rw [cd2]; split <;> omega
      obtain ⟨o1, o2, o3, ⟨o4, o5, o6, o7, o8, o9⟩, o10⟩ := op5_v (g := ms) (d := nI (T / 144)) (a := 19 + 7 * nr T) (by omega)
      refine ⟨by omega, o1, ?_⟩
      unfold RR
      rw [n2, cd2]
      refine ⟨by rw [o2, h1, nI_1, n1], fun k hk => ?_, fun k hk => ?_⟩
      · by_cases ck : k = nr T
        · rw [ck]; exact o3.trans (congrArg nI (by omega))
        · rw [o10 _ (by omega) (by omega), h2 k (by omega)]
          exact congrArg nI (by omega)
      · by_cases ck : k = nr T
        · rw [ck, show T / 144 + 1 - (T / 144 + 1) + nr T = T / 144 by omega]
          exact six (o4.trans b0.symm) (o5.trans b1.symm) (o6.trans b2.symm) (o7.trans b3.symm) (o8.trans b4.symm) (o9.trans b5.symm)
        · intro j hj
          rw [o10 _ (by omega) (by omega), h3 k (by omega) j hj, b6 _ (by omega)]
          exact congrArg re (by omega)
  · have cd : nd T = T / 144 + 1 := by unfold nd; omega
    have cd2 : nd (T + 1) = nd T := by unfold nd; omega
    have n2 : nr (T + 1) = nr T := by unfold nr; rw [cd2]
    have n0 : 0 < nr T := by unfold nr; rw [cd]; split <;> omega
    have hr : rK ms (nI (T / 144)) (nr T) 0 = nr T - 1 := rK_in (by omega) _ _ (by omega) (by omega) ((h2 (nr T - 1) (by omega)).trans (congrArg nI (by omega))) (fun k _ k2 => ⟨_, h2 k (by omega), by omega, by omega⟩)
    have hr2 : rK ms (nI (T / 144)) (nr T) 0 < nr T := by rw [hr]; omega
    unfold bg
    rw [if_neg c]
    unfold opK opW
    rw [if_pos hr2, if_pos hr2, hr]
    refine ⟨by omega, fun _ _ => rfl, ?_⟩
    unfold RR
    rw [n2, cd2]
    exact ⟨h1, h2, h3⟩
