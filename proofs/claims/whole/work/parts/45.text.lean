/-! texts: the class and the model read alike -/
def dsel {α : Type} (C : Int32) (A B : α) : α := if C < 48 then A else if C ≤ 57 then B else A
theorem rdN_form (tf ch : Nat → Int32) : sr_X3_readNumber tf ch = dsel (sr_X3_characterHere tf ch) (-1) (dsel (sr_X3_characterHere (upd tf 1 (tf 1 + 1)) ch) ((ag_max 0 (-1)) * 10 + (sr_X3_characterHere tf ch - 48))
    (dsel (sr_X3_characterHere (upd (upd tf 1 (tf 1 + 1)) 1 (tf 1 + 1 + 1)) ch) ((ag_max 0 ((ag_max 0 (-1)) * 10 + (sr_X3_characterHere tf ch - 48))) * 10 + (sr_X3_characterHere (upd tf 1 (tf 1 + 1)) ch - 48))
      ((ag_max 0 ((ag_max 0 ((ag_max 0 (-1)) * 10 + (sr_X3_characterHere tf ch - 48))) * 10 + (sr_X3_characterHere (upd tf 1 (tf 1 + 1)) ch - 48))) * 10 + (sr_X3_characterHere (upd (upd tf 1 (tf 1 + 1)) 1 (tf 1 + 1 + 1)) ch - 48)))) := by
  unfold sr_X3_readNumber xv49_2_X3_readNumber xv49_1_X3_readNumber dsel
  rfl
theorem rdW_form (tf ch : Nat → Int32) : sw0_X3_readNumber tf ch = dsel (sr_X3_characterHere tf ch) tf (dsel (sr_X3_characterHere (upd tf 1 (tf 1 + 1)) ch) (upd tf 1 (tf 1 + 1))
    (dsel (sr_X3_characterHere (upd (upd tf 1 (tf 1 + 1)) 1 (tf 1 + 1 + 1)) ch) (upd (upd tf 1 (tf 1 + 1)) 1 (tf 1 + 1 + 1)) (upd (upd (upd tf 1 (tf 1 + 1)) 1 (tf 1 + 1 + 1)) 1 (tf 1 + 1 + 1 + 1)))) := by
  unfold sw0_X3_readNumber xv49_3_X3_readNumber xv49_2_X3_readNumber xv49_1_X3_readNumber dsel
  rfl
/-- both stand at the place p of a text of t characters -/
def TS (t p : Nat) (tf mf : Nat → Int32) : Prop := tf 0 = nI t ∧ tf 1 = nI p ∧ mf 2 = nI t ∧ mf 10 = nI p ∧ p ≤ t ∧ t ≤ 60
def TX_ (t : Nat) (ch mx : Nat → Int32) : Prop := (∀ j, j < t → ch j = mx j) ∧ (∀ j : Nat, ∃ q : Nat, q < 128 ∧ ch j = nI q)
theorem TS_tq {t p : Nat} {tf mf : Nat → Int32} (h : TS t p tf mf) : tq mf := ⟨p, t, h.2.2.2.1, h.2.2.1, h.2.2.2.2.1, h.2.2.2.2.2⟩
theorem ch_at {t p : Nat} {tf mf ch : Nat → Int32} (h : TS t p tf mf) : sr_X3_characterHere tf ch = if t ≤ p then 0 else ch p := by
  obtain ⟨h0, h1, -, -, h4, h5⟩ := h
  unfold sr_X3_characterHere
  rw [h0, h1, if_neg (nI_pos (by omega)), nI_clamp (by omega)]
  by_cases c : t ≤ p
  · rw [if_pos c, if_pos ((nI_leI (by omega) (by omega)).mpr c)]
  · rw [if_neg c, if_neg (fun h => c ((nI_leI (by omega) (by omega)).mp h)), if_neg (show ¬ (60 : Int32) ≤ nI p from fun h => absurd ((nI_leI (a := 60) (by decide) (by omega)).mp h) (by omega))]
theorem at_at {t p : Nat} {tf mf mx : Nat → Int32} {a b : Int32} (h : TS t p tf mf) : sr_X6_isAt mf mx a b = (if t ≤ p then 0 else if sr_X6_in (mx p) a b = 0 then 0 else 1) ∧ sp mf = p := by
  obtain ⟨-, -, h2, h3, h4, h5⟩ := h
  have e : sp mf = p := by unfold sp; rw [h3, nI_clamp (by omega)]
  refine ⟨?_, e⟩
  unfold sr_X6_isAt
  rw [e, h2, h3]
  by_cases c : t ≤ p
  · rw [if_pos c, if_pos ((nI_leI (by omega) (by omega)).mpr c)]
  · rw [if_neg c, if_neg (fun h => c ((nI_leI (by omega) (by omega)).mp h))]
theorem dg_tab : ∀ q, q < 128 → ((nI q < 48 ∨ ¬ nI q ≤ 57) ∧ sr_X6_in (nI q) 48 57 = 0) ∨ (48 ≤ q ∧ q ≤ 57 ∧ ¬ nI q < 48 ∧ nI q ≤ 57 ∧ nI q - 48 = nI (q - 48) ∧ ¬ sr_X6_in (nI q) 48 57 = 0) := by decide +kernel
/-- a digit here, or none -/
theorem dg {t p : Nat} {tf mf ch mx : Nat → Int32} (hT : TX_ t ch mx) (h : TS t p tf mf) :
    ((∀ {α : Type} (A B : α), dsel (sr_X3_characterHere tf ch) A B = A) ∧ sr_X6_isAt mf mx 48 57 = 0) ∨
    (∃ d : Nat, d ≤ 9 ∧ (∀ {α : Type} (A B : α), dsel (sr_X3_characterHere tf ch) A B = B) ∧ sr_X3_characterHere tf ch - 48 = nI d ∧ ¬ sr_X6_isAt mf mx 48 57 = 0 ∧ mx (sp mf) = nI (48 + d) ∧ p < t) := by
  obtain ⟨a1, a2⟩ := at_at (mx := mx) (a := 48) (b := 57) h
  rw [ch_at (ch := ch) h, a1, a2]
  by_cases c : t ≤ p
  · rw [if_pos c, if_pos c]
    exact Or.inl ⟨fun A B => by unfold dsel; rw [if_pos (by decide)], rfl⟩
  · rw [if_neg c, if_neg c, ← hT.1 p (by omega)]
    obtain ⟨q, q1, q2⟩ := hT.2 p
    rw [q2]
    rcases dg_tab q q1 with ⟨d1, d2⟩ | ⟨d1, d2, d3, d4, d5, d6⟩
    · refine Or.inl ⟨fun A B => ?_, if_pos d2⟩
      unfold dsel
      by_cases e : nI q < 48
      · rw [if_pos e]
      · rw [if_neg e, if_neg (d1.resolve_left e)]
    · refine Or.inr ⟨q - 48, by omega, fun A B => ?_, d5, ?_, congrArg nI (by omega), by omega⟩
      · unfold dsel
        rw [if_neg d3, if_pos d4]
      · rw [if_neg d6]; decide
theorem TS_st {t p : Nat} {tf mf : Nat → Int32} (h : TS t p tf mf) (hp : p < t) : TS t (p + 1) (upd tf 1 (tf 1 + 1)) (upd mf 10 (mf 10 + 1)) := by
  obtain ⟨h0, h1, h2, h3, h4, h5⟩ := h
  refine ⟨?_, ?_, ?_, ?_, by omega, h5⟩
  · rw [upd_ne (by omega), h0]
  · rw [upd_eq, h1, nI_1]
  · rw [upd_ne (by omega), h2]
  · rw [upd_eq, h3, nI_1]
theorem nb_v {v d : Nat} : ((10 : Int32) * nI v + nI (48 + d)) - 48 = nI (10 * v + d) := by
  rw [show (10 : Int32) = nI 10 from rfl, pk_mul, nI_add, show 10 * v + (48 + d) = 10 * v + d + 48 by omega, show (48 : Int32) = nI 48 from rfl, pk_sub (by omega)]
  exact congrArg nI (by omega)
theorem cl_v {v d : Nat} (h : v < 2 ^ 31) : ag_max 0 (nI v) * 10 + nI d = nI (10 * v + d) := by
  rw [mx0]
  by_cases c : nI v ≤ 0
  · rw [if_pos c]
    have hv : v = 0 := by
      have := (nI_leI (a := v) (b := 0) h (by decide)).mp c
      omega
    rw [hv, show (0 : Int32) = nI 0 from rfl, show (10 : Int32) = nI 10 from rfl, pk_mul, nI_add]
  · rw [if_neg c, show (10 : Int32) = nI 10 from rfl, pk_mul, nI_add]
    exact congrArg nI (by omega)
/-- a digit more in both, or the end of both -/
theorem dg2 {t p w n v : Nat} {tf mf ch mx md : Nat → Int32} (hT : TX_ t ch mx) (h : TS t p tf mf) (hv : md w = nI v) :
    ((∀ {α : Type} (A B : α), dsel (sr_X3_characterHere tf ch) A B = A) ∧ nbL mx w (n + 1) (mf, md) = (mf, md)) ∨
    (∃ d : Nat, d ≤ 9 ∧ (∀ {α : Type} (A B : α), dsel (sr_X3_characterHere tf ch) A B = B) ∧ sr_X3_characterHere tf ch - 48 = nI d ∧ nbL mx w (n + 1) (mf, md) = nbL mx w n (upd mf 10 (mf 10 + 1), upd md w (nI (10 * v + d))) ∧ p < t) := by
  rcases dg hT h with ⟨a1, a2⟩ | ⟨d, d1, d2, d3, d4, d5, d6⟩
  · exact Or.inl ⟨a1, nb_a (x := (mf, md)) a2⟩
  · refine Or.inr ⟨d, d1, d2, d3, ?_, d6⟩
    rw [nb_b (x := (mf, md)) d4]
    unfold nbS
    dsimp only
    rw [hv, d5, nb_v]
/-- a number: k digits of the value v -/
theorem rn_rel {t p w : Nat} {tf mf ch mx md : Nat → Int32} (hT : TX_ t ch mx) (h : TS t p tf mf) : ∃ k v : Nat, TS t (p + k) (sw0_X3_readNumber tf ch) (nbX mf mx md w).1 ∧ (nbX mf mx md w).2 w = nI v ∧ (∀ j, ¬ j = w → (nbX mf mx md w).2 j = md j) ∧ (∀ j, ¬ j = 1 → sw0_X3_readNumber tf ch j = tf j) ∧
    v ≤ 999 ∧ ((sr_X3_readNumber tf ch = -1 ∧ sr_X6_numbered mf mx md w = 0) ∨ (sr_X3_readNumber tf ch = nI v ∧ sr_X6_numbered mf mx md w = 1)) := by
  have z0 : ag_max 0 (-1) * 10 = 0 := by decide
  have hb := h.2.2.2.2
  have nb : ∀ q : Nat, (nbX mf mx md w).1 10 = nI q → q < 100 → sr_X6_numbered mf mx md w = if q ≤ p then 0 else 1 := fun q hq hq2 => by
    unfold sr_X6_numbered
    rw [hq, h.2.2.2.1]
    by_cases c : q ≤ p
    · rw [if_pos c, if_pos ((nI_leI (by omega) (by omega)).mpr c)]
    · rw [if_neg c, if_neg (fun e => c ((nI_leI (by omega) (by omega)).mp e))]
  have e0 : nbX mf mx md w = nbL mx w (2 + 1) (mf, upd md w 0) := by unfold nbX; rfl
  have m0 : ∀ j, ¬ j = w → upd md w 0 j = md j := fun j hj => upd_ne hj
  have v0 : upd md w 0 w = nI 0 := upd_eq
  generalize upd md w 0 = D0 at e0 m0 v0
  rw [rdN_form, rdW_form]
  rcases dg2 (n := 2) (v := 0) hT h v0 with ⟨a1, a2⟩ | ⟨d, d1, d2, d3, d4, d6⟩
  · rw [a2] at e0
    have e2 := nb p (by rw [e0]; exact h.2.2.2.1) (by omega)
    rw [a1, a1]
    refine ⟨0, 0, by rw [e0]; exact h, by rw [e0]; exact v0, fun j hj => by rw [e0]; exact m0 j hj, fun _ _ => rfl, by omega, Or.inl ⟨rfl, ?_⟩⟩
    rw [e2, if_pos (Nat.le_refl _)]
  · rw [d4] at e0
    have h1 := TS_st h d6
    have f1 : (ag_max 0 (-1)) * 10 + (sr_X3_characterHere tf ch - 48) = nI d := by rw [z0, d3, Int32.zero_add]
    rw [d2, d2, f1]
    have m1 : ∀ j, ¬ j = w → upd D0 w (nI (10 * 0 + d)) j = md j := fun j hj => (upd_ne hj).trans (m0 j hj)
    have v1 : upd D0 w (nI (10 * 0 + d)) w = nI d := upd_eq.trans (congrArg nI (by omega))
    have p1 : ∀ j, ¬ j = 1 → upd tf 1 (tf 1 + 1) j = tf j := fun j hj => upd_ne hj
    have p2 : upd tf 1 (tf 1 + 1) 1 = tf 1 + 1 := upd_eq
    generalize upd D0 w (nI (10 * 0 + d)) = D1 at e0 m1 v1
    generalize upd mf 10 (mf 10 + 1) = M1 at e0 h1
    generalize upd tf 1 (tf 1 + 1) = T1 at h1 p1 p2 ⊢
    rw [← p2]
    rcases dg2 (n := 1) hT h1 v1 with ⟨a1, a2⟩ | ⟨g, g1, g2, g3, g4, g6⟩
    · rw [a2] at e0
      have e2 := nb (p + 1) (by rw [e0]; exact h1.2.2.2.1) (by omega)
      rw [a1, a1]
      refine ⟨1, d, by rw [e0]; exact h1, by rw [e0]; exact v1, fun j hj => by rw [e0]; exact m1 j hj, p1, by omega, Or.inr ⟨rfl, ?_⟩⟩
      rw [e2, if_neg (by omega)]
    · rw [g4] at e0
      have h2 := TS_st h1 g6
      have f2 : ag_max 0 (nI d) * 10 + (sr_X3_characterHere T1 ch - 48) = nI (10 * d + g) := by rw [g3]; exact cl_v (by omega)
      rw [g2, g2, f2]
      have m2 : ∀ j, ¬ j = w → upd D1 w (nI (10 * d + g)) j = md j := fun j hj => (upd_ne hj).trans (m1 j hj)
      have v2 : upd D1 w (nI (10 * d + g)) w = nI (10 * d + g) := upd_eq
      have p3 : ∀ j, ¬ j = 1 → upd T1 1 (T1 1 + 1) j = tf j := fun j hj => (upd_ne hj).trans (p1 j hj)
      have p4 : upd T1 1 (T1 1 + 1) 1 = T1 1 + 1 := upd_eq
      generalize upd D1 w (nI (10 * d + g)) = D2 at e0 m2 v2
      generalize upd M1 10 (M1 10 + 1) = M2 at e0 h2
      generalize upd T1 1 (T1 1 + 1) = T2 at h2 p3 p4 ⊢
      rw [← p4]
      rcases dg2 (n := 0) hT h2 v2 with ⟨a1, a2⟩ | ⟨k, k1, k2, k3, k4, k6⟩
      · rw [a2] at e0
        have e2 := nb (p + 1 + 1) (by rw [e0]; exact h2.2.2.2.1) (by omega)
        rw [a1, a1]
        refine ⟨2, 10 * d + g, by rw [e0]; exact h2, by rw [e0]; exact v2, fun j hj => by rw [e0]; exact m2 j hj, p3, by omega, Or.inr ⟨rfl, ?_⟩⟩
        rw [e2, if_neg (by omega)]
      · rw [k4] at e0
        have h3 := TS_st h2 k6
        have f3 : ag_max 0 (nI (10 * d + g)) * 10 + (sr_X3_characterHere T2 ch - 48) = nI (10 * (10 * d + g) + k) := by rw [k3]; exact cl_v (by omega)
        rw [k2, k2, f3]
        have e : nbX mf mx md w = (upd M2 10 (M2 10 + 1), upd D2 w (nI (10 * (10 * d + g) + k))) := e0
        have e2 := nb (p + 1 + 1 + 1) (by rw [e]; exact h3.2.2.2.1) (by omega)
        refine ⟨3, 10 * (10 * d + g) + k, by rw [e]; exact h3, by rw [e]; exact upd_eq, fun j hj => by rw [e]; exact (upd_ne hj).trans (m2 j hj), fun j hj => (upd_ne hj).trans (p3 j hj), by omega, Or.inr ⟨rfl, ?_⟩⟩
        rw [e2, if_neg (by omega)]
theorem in_cc {x c : Int32} : (sr_X6_in x c c = 0 ↔ ¬ x = c) := by
  unfold sr_X6_in
  constructor
  · intro h e
    rw [e, if_neg Int32.lt_irrefl, if_neg Int32.lt_irrefl] at h
    exact absurd h (by decide)
  · intro h
    by_cases c1 : x < c
    · rw [if_pos c1]
    · rw [if_neg c1, if_pos]
      exact Int32.not_le.mp (fun h2 => h (Int32.le_antisymm h2 (Int32.not_lt.mp c1)))
/-- a sign: skipped by both, or by none -/
theorem sk_rel {t p : Nat} {tf mf ch mx : Nat → Int32} {c : Int32} (hc : ¬ (0 : Int32) = c) (hT : TX_ t ch mx) (h : TS t p tf mf) : ∃ k : Nat, TS t (p + k) (sw0_X3_skip tf ch c) (sw0_X6_sign mf mx c) ∧ sr_X3_skip tf ch c = sr_X6_sign mf mx c ∧ (∀ j, ¬ j = 1 → sw0_X3_skip tf ch c j = tf j) := by
  obtain ⟨a1, a2⟩ := at_at (mx := mx) (a := c) (b := c) h
  unfold sw0_X3_skip sr_X3_skip sr_X6_sign sw0_X6_sign xv22_1_X6_sign j21_0_X6_sign xv17_1_X3_skip
  rw [ch_at (ch := ch) h, a1]
  have none : TS t (p + 0) tf (upd mf 10 (mf 10 + 0)) := by
    obtain ⟨h0, h1, h2, h3, h4, h5⟩ := h
    exact ⟨h0, h1, by rw [upd_ne (by omega), h2], by rw [upd_eq, Int32.add_zero]; exact h3, h4, h5⟩
  by_cases c1 : t ≤ p
  · rw [if_pos c1, if_pos c1, if_neg hc, if_neg hc, if_pos rfl]
    exact ⟨0, none, rfl, fun _ _ => rfl⟩
  · rw [if_neg c1, if_neg c1, ← hT.1 p (by omega)]
    by_cases c2 : ch p = c
    · rw [if_pos c2, if_pos c2, if_neg (fun h2 => in_cc.mp h2 c2), if_neg (by decide)]
      exact ⟨1, TS_st h (by omega), rfl, fun j hj => upd_ne hj⟩
    · rw [if_neg c2, if_neg c2, if_pos (in_cc.mpr c2), if_pos rfl]
      exact ⟨0, none, rfl, fun _ _ => rfl⟩
