/-! THE GROUND: words by place, a world's calls, contracts of the shape that this claim uses -/
abbrev ag_T (cI cC cL : ClassId) : List (ClassId × FieldType) := [(cI, .int), (cC, .char), (cL, .object RX1)]
/-- the links among nest mates that the class uses -/
def ag_N (U : State) : Prop :=
  va_Nw (.methodLinkNest RX5 9 yX1_init RX5) U ∧ va_Nw (.methodLinkNest RX5 21 yX4_init RX5) U ∧ va_Nw (.methodLinkNest RX5 28 yX0_init RX5) U ∧ va_Nw (.methodLinkNest RX0 11 yX1_init RX5) U ∧
  va_Nw (.methodLinkNest RX5 35 yX3_init RX5) U ∧ va_Nw (.methodLinkNest RX5 42 yX2_init RX5) U ∧ va_Nw (.methodLinkNest RX1 53 yX5_seaLevel RX5) U ∧ va_Nw (.methodLinkNest RX1 114 yX5_recordStart RX5) U ∧
  va_Nw (.fieldLinkNest RX1 80 RX5 "LEAST_SETTING" "[I" RX5) U ∧ va_Nw (.fieldLinkNest RX1 83 RX5 "MOST_SETTING" "[I" RX5) U
theorem ag_N.warm {s U : State} (hW : s.WarmedH U.vm) (h : ag_N s) : ag_N U := by
  obtain ⟨h1, h2, h3, h4, h5, h6, h7, h8, h10, h11⟩ := h
  exact ⟨va_Nw.warmM hW h1, va_Nw.warmM hW h2, va_Nw.warmM hW h3, va_Nw.warmM hW h4, va_Nw.warmM hW h5, va_Nw.warmM hW h6, va_Nw.warmM hW h7, va_Nw.warmM hW h8, va_Nw.warmF hW h10, va_Nw.warmF hW h11⟩
theorem ag_N.same {u U : State} (e : u.vm = U.vm) (h : ag_N u) : ag_N U := by
  obtain ⟨h1, h2, h3, h4, h5, h6, h7, h8, h10, h11⟩ := h
  exact ⟨va_Nw.same rfl e h1, va_Nw.same rfl e h2, va_Nw.same rfl e h3, va_Nw.same rfl e h4, va_Nw.same rfl e h5, va_Nw.same rfl e h6, va_Nw.same rfl e h7, va_Nw.same rfl e h8, va_Nw.same rfl e h10, va_Nw.same rfl e h11⟩
/-- the two static rows, out of reach of what may be changed -/
def ag_fL (j : Nat) : Value := .int (if j = 1 then 0 else 1)
def ag_fM (j : Nat) : Value := .int (if j = 2 then 9999 else 400)
def ag_ZZ (A : Nat → Prop) (U : State) (H : Heap) : Prop := ∃ tL tM : Nat, va_Z RX5 "LEAST_SETTING" "[I" (.ref tL) A U H ∧ va_T .int tL 3 ag_fL A U H ∧ va_Z RX5 "MOST_SETTING" "[I" (.ref tM) A U H ∧ va_T .int tM 3 ag_fM A U H
theorem ag_ZZ.moved {A : Nat → Prop} {u U : State} {H : Heap} (hvm : u.vm.Alike U.vm) (h : ag_ZZ A u H) : ag_ZZ A U H := by
  obtain ⟨tL, tM, h1, h2, h3, h4⟩ := h
  exact ⟨tL, tM, h1.moved hvm, h2.moved hvm, h3.moved hvm, h4.moved hvm⟩
theorem ag_ZZ.kept {A : Nat → Prop} {U : State} {H H1 : Heap} (h : ag_ZZ A U H) (hq : ∀ a : Nat, a < H.size → ¬ A a → H1[a]? = H[a]?) : ag_ZZ A U H1 := by
  obtain ⟨tL, tM, h1, h2, h3, h4⟩ := h
  exact ⟨tL, tM, h1.kept hq, h2.kept hq, h3.kept hq, h4.kept hq⟩
theorem ag_ZZ.narrow {A B : Nat → Prop} {U : State} {H : Heap} (h : ag_ZZ A U H) (hAB : ∀ q, B q → A q) : ag_ZZ B U H := by
  obtain ⟨tL, tM, h1, h2, h3, h4⟩ := h
  exact ⟨tL, tM, h1.narrow hAB, h2.narrow hAB, h3.narrow hAB, h4.narrow hAB⟩
def ag_NZ (A : Nat → Prop) (s : State) : Prop := ag_N s ∧ ag_ZZ A s s.heap
/-- the start of a method over the cells w; the cells are w' behind it, at the same addresses -/
def ag_In (D : va_G) (cI cC cL : ClassId) (w : va_W) (sz : Nat) : State → Prop := fun U => U.heap.size = sz ∧ va_P D vwCl w U.heap ∧ va_K D vwCl (ag_T cI cC cL) U ∧ va_D (fun _ => True) w ∧ ag_N U ∧ ag_ZZ (va_A w sz) U U.heap
def ag_Out (D : va_G) (w w' : va_W) (t : State) : Prop := va_P D vwCl w' t.heap ∧ w'.map Prod.fst = w.map Prod.fst
abbrev ag_rm (fr lo : Nat) : Room := { frames := fr, cells := 0, slots := 0, locals := lo }
def ag_MI (l : Launch) (y : MethodName) (code : ByteArray) (maxL : Nat) (ret : FieldType) (fr lo : Nat) (D : va_G) (cI cC cL : ClassId) (av : List Value) (w : va_W) (post : Int32 → va_W → Prop) : Prop :=
  ∀ sz : Nat, Met l y (.code y code maxL (some ret) :: gW) (ag_rm fr lo) (va_Pc av (ag_In D cI cC cL w sz)) (va_Qi post (ag_Out D w) (va_A w sz)) 0 0 (va_A w sz)
def ag_MV (l : Launch) (y : MethodName) (code : ByteArray) (maxL : Nat) (fr lo : Nat) (D : va_G) (cI cC cL : ClassId) (av : List Value) (w : va_W) (post : va_W → Prop) : Prop :=
  ∀ sz : Nat, Met l y (.code y code maxL none :: gW) (ag_rm fr lo) (va_Pc av (ag_In D cI cC cL w sz)) (va_Qv post (ag_Out D w) (va_A w sz)) 0 0 (va_A w sz)
theorem ag_In_blind {av : List Value} {D : va_G} {cI cC cL : ClassId} {w : va_W} {sz : Nat} : FrameBlind (va_Pc av (ag_In D cI cC cL w sz)) :=
  fun a U g mk q => ⟨q.1, q.2.1, q.2.2.1, va_K.moved (u := U) (U := U.calling g mk a) (Vm.Alike.refl U.vm) q.2.2.2.1, q.2.2.2.2.1, ag_N.same (u := U) rfl q.2.2.2.2.2.1, ag_ZZ.moved (u := U) (U := U.calling g mk a) (Vm.Alike.refl U.vm) q.2.2.2.2.2.2⟩
/-! putting the cells of a callee back among the caller's -/
def ag_put (w : va_W) : List Nat → va_W → va_W
  | i :: is, q :: qs => ag_put (w.set i q) is qs
  | _, _ => w
theorem ag_put_len : ∀ (is : List Nat) (w qs : va_W), (ag_put w is qs).length = w.length
  | [], w, qs => by cases qs <;> rfl
  | i :: is, w, [] => rfl
  | i :: is, w, q :: qs => by
    show (ag_put (w.set i q) is qs).length = w.length
    rw [ag_put_len is, List.length_set]
theorem ag_put_at : ∀ (is : List Nat) (w qs : va_W), is.length = qs.length → ∀ (k : Nat) (z : Nat × va_E), (ag_put w is qs)[k]? = some z → (∃ j : Nat, is[j]? = some k ∧ qs[j]? = some z) ∨ (k ∉ is ∧ w[k]? = some z)
  | [], w, [], _, k, z, h => Or.inr ⟨List.not_mem_nil, h⟩
  | [], w, _ :: _, e, _, _, _ => by cases e
  | _ :: _, w, [], e, _, _, _ => by cases e
  | i :: is, w, q :: qs, e, k, z, h => by
    rcases ag_put_at is (w.set i q) qs (Nat.succ.inj e) k z h with ⟨j, h1, h2⟩ | ⟨h1, h2⟩
    · exact Or.inl ⟨j + 1, h1, h2⟩
    · by_cases hk : k = i
      · subst hk
        have hl : k < w.length := by
          have := (List.getElem?_eq_some_iff.mp h2).1
          rwa [List.length_set] at this
        rw [List.getElem?_set_self hl] at h2
        exact Or.inl ⟨0, rfl, h2⟩
      · rw [List.getElem?_set_ne (Ne.symm hk)] at h2
        exact Or.inr ⟨fun hm => (List.mem_cons.mp hm).elim hk h1, h2⟩
theorem ag_at {is : List Nat} {w wc : va_W} (hC : is.map (fun i => w[i]?) = wc.map some) {j : Nat} {q : Nat × va_E} (hq : wc[j]? = some q) : ∃ i, is[j]? = some i ∧ w[i]? = some q := by
  have h1 : (is.map (fun i => w[i]?))[j]? = some (some q) := by rw [hC, List.getElem?_map, hq]; rfl
  rw [List.getElem?_map] at h1
  cases hi : is[j]? with
  | none => rw [hi] at h1; cases h1
  | some i => rw [hi] at h1; exact ⟨i, rfl, Option.some.inj h1⟩
theorem ag_fst {w1 wc : va_W} (h : w1.map Prod.fst = wc.map Prod.fst) {j : Nat} {q : Nat × va_E} (hq : w1[j]? = some q) : ∃ q2, wc[j]? = some q2 ∧ q2.1 = q.1 := by
  have h1 : (wc.map Prod.fst)[j]? = some q.1 := by rw [← h, List.getElem?_map, hq]; rfl
  rw [List.getElem?_map] at h1
  cases hi : wc[j]? with
  | none => rw [hi] at h1; cases h1
  | some q2 => rw [hi] at h1; exact ⟨q2, rfl, Option.some.inj h1⟩
theorem ag_same_len {w1 wc : va_W} (h : w1.map Prod.fst = wc.map Prod.fst) : w1.length = wc.length := by
  have := congrArg List.length h
  simpa using this
theorem ag_join {A0 : Nat → Prop} {D : va_G} {cl : List vw_C} {w wc w1 : va_W} {H H1 : Heap} (hP : va_P D cl w H) (hD : va_D A0 w) (is : List Nat) (hC : is.map (fun i => w[i]?) = wc.map some)
    (hk : ∀ q : Nat, q < H.size → ¬ va_A wc H.size q → H1[q]? = H[q]?) (hP1 : va_P D cl w1 H1) (ha : w1.map Prod.fst = wc.map Prod.fst) : va_P D cl (ag_put w is w1) H1 ∧ va_D A0 (ag_put w is w1) := by
  have hlen : is.length = w1.length := by
    rw [ag_same_len ha]
    have := congrArg List.length hC
    simpa using this
  have addr : ∀ (k : Nat) (z : Nat × va_E), (ag_put w is w1)[k]? = some z → ∃ z2, w[k]? = some z2 ∧ z2.1 = z.1 := by
    intro k z hz
    rcases ag_put_at is w w1 hlen k z hz with ⟨j, h1, h2⟩ | ⟨h1, h2⟩
    · obtain ⟨q2, h3, h4⟩ := ag_fst ha h2
      obtain ⟨i, h5, h6⟩ := ag_at hC h3
      rw [h1] at h5
      cases h5
      exact ⟨q2, h6, h4⟩
    · exact ⟨z, h2, rfl⟩
  refine ⟨fun k z hz => ?_, fun i j x y hx hy hxy => ?_, fun k z hz => ?_⟩
  · rcases ag_put_at is w w1 hlen k z hz with ⟨j, h1, h2⟩ | ⟨h1, h2⟩
    · exact hP1 j z h2
    · have hl := (hP k z h2).lt
      refine (hP k z h2).kept (hk z.1 hl ?_)
      rintro (⟨k2, e, h⟩ | h)
      · obtain ⟨i, h3, h4⟩ := ag_at hC h
        have hij := hD.1 k i z (z.1, e) h2 h4 rfl
        exact h1 (by rw [hij]; exact List.mem_of_getElem? h3)
      · omega
  · obtain ⟨x2, hx2, ex⟩ := addr i x hx
    obtain ⟨y2, hy2, ey⟩ := addr j y hy
    exact hD.1 i j x2 y2 hx2 hy2 (by rw [ex, ey]; exact hxy)
  · obtain ⟨z2, hz2, ez⟩ := addr k z hz
    rw [← ez]
    exact hD.2 k z2 hz2
theorem ag_Pm {D : va_G} {cl : List vw_C} {w : va_W} {H : Heap} : va_P D cl w H ↔ ∀ q ∈ w, va_at D cl q H :=
  ⟨fun h q hq => by obtain ⟨k, hk⟩ := List.getElem?_of_mem hq; exact h k q hk, fun h k q hk => h q (List.mem_of_getElem? hk)⟩
theorem ag_Dm {A : Nat → Prop} {w : va_W} : va_D A w ↔ (w.map Prod.fst).Nodup ∧ ∀ q ∈ w, A q.1 := by
  constructor
  · rintro ⟨h1, h2⟩
    refine ⟨List.pairwise_iff_getElem.mpr fun i j hi hj hij e => ?_, fun q hq => by obtain ⟨k, hk⟩ := List.getElem?_of_mem hq; exact h2 k q hk⟩
    rw [List.length_map] at hi hj
    rw [List.getElem_map, List.getElem_map] at e
    have := h1 i j _ _ (List.getElem?_eq_getElem hi) (List.getElem?_eq_getElem hj) e
    omega
  · rintro ⟨h1, h2⟩
    refine ⟨fun i j x y hx hy hxy => ?_, fun k q hk => h2 q (List.mem_of_getElem? hk)⟩
    have h3 := List.pairwise_iff_getElem.mp h1
    obtain ⟨li, ei⟩ := List.getElem?_eq_some_iff.mp hx
    obtain ⟨lj, ej⟩ := List.getElem?_eq_some_iff.mp hy
    have key : ∀ a b : Nat, (ha : a < w.length) → (hb : b < w.length) → a < b → (w[a]).1 ≠ (w[b]).1 := fun a b ha hb hab => by
      have := h3 a b (by rw [List.length_map]; exact ha) (by rw [List.length_map]; exact hb) hab
      rwa [List.getElem_map, List.getElem_map] at this
    rcases Nat.lt_trichotomy i j with h | h | h
    · exact absurd (by rw [ei, ej, hxy]) (key i j li lj h)
    · exact h
    · exact absurd (by rw [ei, ej, hxy]) (key j i lj li h)
/-- the callee's cells wc are cut out of w; what comes back for them is put in their place -/
def ag_cut (w wc : va_W) (put : va_W → va_W) : Prop :=
  ∀ (D : va_G) (cl : List vw_C) (A0 : Nat → Prop) (H : Heap), va_P D cl w H → va_D A0 w → va_P D cl wc H ∧ va_D A0 wc ∧
    ∀ (H1 : Heap) (w1 : va_W), (∀ q : Nat, q < H.size → ¬ va_A wc H.size q → H1[q]? = H[q]?) → va_P D cl w1 H1 → w1.map Prod.fst = wc.map Prod.fst → va_P D cl (put w1) H1 ∧ va_D A0 (put w1)
theorem ag_cut_is {w wc : va_W} (is : List Nat) (hC : is.map (fun i => w[i]?) = wc.map some) (hn : va_nd is = true) : ag_cut w wc (ag_put w is) := fun D cl A0 H hP hD =>
  ⟨fun k q hq => by
    obtain ⟨i, -, h⟩ := ag_at hC hq
    exact hP i q h, hD.sub is hn hC, fun H1 w1 hk hP1 ha => ag_join hP hD is hC hk hP1 ha⟩
theorem ag_cut_0 {w : va_W} : ag_cut w [] (fun _ => w) := fun D cl A0 H hP hD =>
  ⟨fun k q hq => by simp at hq, ⟨fun i j x y hx => by simp at hx, fun k q hq => by simp at hq⟩, fun H1 w1 hk hP1 ha => ⟨hP.kept (fun k q hq => hk q.1 (hP k q hq).lt (by rintro (⟨k2, e, h⟩ | h); · simp at h
                                                                                                                                                                         · have := (hP k q hq).lt; omega)), hD⟩⟩
theorem ag_cut_all {w : va_W} : ag_cut w w (fun w1 => w1) := fun D cl A0 H hP hD =>
  ⟨hP, hD, fun H1 w1 hk hP1 ha => ⟨hP1, by
    rw [ag_Dm] at hD ⊢
    refine ⟨by rw [ha]; exact hD.1, fun q hq => ?_⟩
    have h1 : q.1 ∈ w.map Prod.fst := by rw [← ha]; exact List.mem_map_of_mem hq
    obtain ⟨q2, h2, h3⟩ := List.mem_map.mp h1
    rw [← h3]
    exact hD.2 q2 h2⟩⟩
/-- the same cells in another order, cut and put -/
theorem ag_cut_perm {w wc wr : va_W} {put : va_W → va_W} (hw : ∀ q, q ∈ w ↔ q ∈ wc ∨ q ∈ wr) (hnd : (w.map Prod.fst).Nodup → (wc.map Prod.fst).Nodup ∧ ∀ x ∈ wc, ∀ y ∈ wr, x.1 ≠ y.1)
    (hput : ∀ w1 : va_W, w1.map Prod.fst = wc.map Prod.fst → (∀ q, q ∈ put w1 ↔ q ∈ w1 ∨ q ∈ wr) ∧ (put w1).map Prod.fst = w.map Prod.fst) : ag_cut w wc put := fun D cl A0 H hP hD => by
  rw [ag_Pm] at hP
  rw [ag_Dm] at hD
  obtain ⟨n1, n2⟩ := hnd hD.1
  refine ⟨ag_Pm.mpr fun q hq => hP q ((hw q).mpr (Or.inl hq)), ag_Dm.mpr ⟨n1, fun q hq => hD.2 q ((hw q).mpr (Or.inl hq))⟩, fun H1 w1 hk hP1 ha => ?_⟩
  obtain ⟨p1, p2⟩ := hput w1 ha
  refine ⟨ag_Pm.mpr fun q hq => ?_, ag_Dm.mpr ⟨by rw [p2]; exact hD.1, fun q hq => ?_⟩⟩
  · rcases (p1 q).mp hq with h | h
    · exact (ag_Pm.mp hP1) q h
    · have h0 := hP q ((hw q).mpr (Or.inr h))
      refine h0.kept (hk q.1 h0.lt ?_)
      rintro (⟨k2, e, h2⟩ | h2)
      · exact n2 (q.1, e) (List.mem_of_getElem? h2) q h rfl
      · have := h0.lt
        omega
  · have h1 : q.1 ∈ w.map Prod.fst := by rw [← p2]; exact List.mem_map_of_mem hq
    obtain ⟨q2, h2, h3⟩ := List.mem_map.mp h1
    rw [← h3]
    exact hD.2 q2 h2
theorem ag_cut_P {w wc wr : va_W} {put : va_W → va_W} (hw : w.Perm (wc ++ wr)) (hput : ∀ w1 : va_W, w1.map Prod.fst = wc.map Prod.fst → (put w1).Perm (w1 ++ wr) ∧ (put w1).map Prod.fst = w.map Prod.fst) : ag_cut w wc put := by
  refine ag_cut_perm (wr := wr) (fun q => by rw [hw.mem_iff, List.mem_append]) (fun hn => ?_) (fun w1 ha => ⟨fun q => by rw [(hput w1 ha).1.mem_iff, List.mem_append], (hput w1 ha).2⟩)
  have h := (hw.map Prod.fst).nodup_iff.mp hn
  rw [List.map_append, List.nodup_append] at h
  exact ⟨h.1, fun x hx y hy e => h.2.2 _ (List.mem_map_of_mem hx) _ (List.mem_map_of_mem hy) e⟩
theorem ag_cut_1 {w wc : va_W} (wa wb : va_W) (h : w = wa ++ (wc ++ wb)) : ag_cut w wc (fun w1 => wa ++ (w1 ++ wb)) := by
  subst h
  exact ag_cut_P (wr := wa ++ wb) (List.perm_append_comm_assoc wa wc wb) (fun w1 ha => ⟨List.perm_append_comm_assoc wa w1 wb, by simp [ha]⟩)
theorem ag_p2 (wa c1 wb c2 wd : va_W) : (wa ++ (c1 ++ (wb ++ (c2 ++ wd)))).Perm ((c1 ++ c2) ++ (wa ++ (wb ++ wd))) := by
  refine (List.perm_append_comm_assoc wa c1 _).trans ?_
  rw [List.append_assoc c1 c2]
  refine List.Perm.append_left c1 ?_
  refine (List.Perm.append_left wa (List.perm_append_comm_assoc wb c2 wd)).trans ?_
  exact List.perm_append_comm_assoc wa c2 _
theorem ag_cut_2 {w wc : va_W} (n : Nat) (wa c1 wb c2 wd : va_W) (hc : wc = c1 ++ c2) (hn : c1.length = n) (h : w = wa ++ (c1 ++ (wb ++ (c2 ++ wd)))) : ag_cut w wc (fun w1 => wa ++ (w1.take n ++ (wb ++ (w1.drop n ++ wd)))) := by
  subst h hc hn
  refine ag_cut_P (wr := wa ++ (wb ++ wd)) (ag_p2 wa c1 wb c2 wd) (fun w1 ha => ⟨?_, ?_⟩)
  · have := ag_p2 wa (w1.take c1.length) wb (w1.drop c1.length) wd
    rwa [List.take_append_drop] at this
  · have e1 : (w1.take c1.length).map Prod.fst = c1.map Prod.fst := by rw [List.map_take, ha, List.map_append, List.take_left' (by simp)]
    have e2 : (w1.drop c1.length).map Prod.fst = c2.map Prod.fst := by rw [List.map_drop, ha, List.map_append, List.drop_left' (by simp)]
    simp only [List.map_append, e1, e2]
theorem ag_cut_2s {w wc : va_W} (n : Nat) (wa c1 wb c2 wd : va_W) (hc : wc = c1 ++ c2) (hn : c1.length = n) (h : w = wa ++ (c2 ++ (wb ++ (c1 ++ wd)))) : ag_cut w wc (fun w1 => wa ++ (w1.drop n ++ (wb ++ (w1.take n ++ wd)))) := by
  subst h hc hn
  have hp : ∀ d1 d2 : va_W, (wa ++ (d2 ++ (wb ++ (d1 ++ wd)))).Perm ((d1 ++ d2) ++ (wa ++ (wb ++ wd))) := fun d1 d2 => (ag_p2 wa d2 wb d1 wd).trans (List.Perm.append_right _ List.perm_append_comm)
  refine ag_cut_P (wr := wa ++ (wb ++ wd)) (hp c1 c2) (fun w1 ha => ⟨?_, ?_⟩)
  · have := hp (w1.take c1.length) (w1.drop c1.length)
    rwa [List.take_append_drop] at this
  · have e1 : (w1.take c1.length).map Prod.fst = c1.map Prod.fst := by rw [List.map_take, ha, List.map_append, List.take_left' (by simp)]
    have e2 : (w1.drop c1.length).map Prod.fst = c2.map Prod.fst := by rw [List.map_drop, ha, List.map_append, List.drop_left' (by simp)]
    simp only [List.map_append, e1, e2]
theorem ag_Dsub {A : Nat → Prop} {w wc : va_W} (hD : va_D A w) (is : List Nat) (hn : va_nd is = true) (hC : is.map (fun i => w[i]?) = wc.map some) : va_D A wc := hD.sub is hn hC
theorem ag_Psub {D : va_G} {cl : List vw_C} {w wc : va_W} {H : Heap} (hP : va_P D cl w H) (is : List Nat) (hC : is.map (fun i => w[i]?) = wc.map some) : va_P D cl wc H := fun k q hq => by
  obtain ⟨i, -, h⟩ := ag_at hC hq
  exact hP i q h
theorem arrV_congr {cA : ClassId} {n : Nat} {f g : Nat → Value} (h : ∀ j, j < n → f j = g j) : arrV cA n f = arrV cA n g := by
  have e : (Array.ofFn (n := n) fun i => f i.val) = Array.ofFn (n := n) fun i => g i.val := by
    congr 1
    funext i
    exact h i.val i.isLt
  unfold arrV
  first | rw [e] | (simp only [e])
/-- an array's cell read at other contents, the same ones as far as it goes -/
theorem ag_arr {D : va_G} {cl : List vw_C} {w : va_W} {H : Heap} (hP : va_P D cl w H) (k : Nat) {a n : Nat} {cA : ClassId} {f : Nat → Int32} (g : Nat → Int32) (hk : w[k]? = some (a, .inl (cA, n, .inl f))) (h : ∀ j, j < n → f j = g j) : va_P D cl (w.set k (a, .inl (cA, n, .inl g))) H := by
  intro i q hq
  by_cases hi : i = k
  · subst hi
    have hl : i < w.length := (List.getElem?_eq_some_iff.mp hk).1
    rw [List.getElem?_set_self hl] at hq
    cases hq
    have h0 := hP i _ hk
    show H[a]? = some (vp_cell cA (n, .inl g))
    have e : vp_cell cA (n, .inl g) = vp_cell cA (n, .inl f) := by
      rw [vp_cell_i, vp_cell_i]
      exact arrV_congr (fun j hj => by rw [h j hj])
    rw [e]
    exact h0
  · rw [List.getElem?_set_ne (Ne.symm hi)] at hq
    exact hP i q hq
theorem ag_arrD {A : Nat → Prop} {w : va_W} (hD : va_D A w) (k : Nat) {a : Nat} {e0 e : va_E} (hk : w[k]? = some (a, e0)) : va_D A (w.set k (a, e)) := hD.set hk
section AGW
variable {p : Program} {l : Launch} {e : Env} {R : Room} {s : State} {m : MethodId} {args : Array Value} {below : List Frame} {meth : Method} {c : Code} {H : Heap} {locs : List Loc} {cells slots : Nat} {Q : State → Prop}
variable {cc : ByteArray} {pc : Nat} {ls : Array Slot} {rest : List Value} {D : va_G} {A : Nat → Prop} {a : Nat} {cI cC cL : ClassId} {w : va_W} {H0 : Heap}
theorem ag_preS {D : va_G} {av : List Value} {wc : va_W} (hK : va_K D vwCl (ag_T cI cC cL) s) (hN : ag_NZ A s) (hS : va_S A s.heap H locs) (hF : ∀ q, va_A wc H.size q → A q) (hPc : va_P D vwCl wc H) (hDc : va_D A wc) : PreS s H (va_Pc av (ag_In D cI cC cL wc H.size)) av :=
  ⟨ag_In_blind, fun U hU hW => ⟨rfl, by rw [hU], by rw [hU]; exact hPc, va_K.moved hW.alike hK, hDc.weaken (fun _ _ _ _ => trivial), hN.1.warm hW, by rw [hU]; exact ((hN.2.kept (fun a h1 h2 => hS.2.1 a h1 h2)).narrow hF).moved hW.alike⟩⟩
theorem ag_callVi {own : String} {index maxL fr lo nL : Nat} {y : MethodName} {code : ByteArray} {ret : FieldType} {post : Int32 → va_W → Prop} {wc : va_W} {b : Nat} {As : List Value} {q0 ci : Nat} {fs : List Value} {cq : vw_C} {st0 : List Value} {lv : List (Nat × Value)}
    (hx : p.tables.exec = Jvm.exec) (hb : c.code = cc) (hml : c.maxLocals = nL) (hown : s.vm.findClass own = some m.cls) (hG : ∀ w ∈ gW, w.before args s = true) (hK : va_K D vwCl (ag_T cI cC cL) s) (hN : ag_NZ A s) (hA : ∀ q, s.heap.size ≤ q → A q) (hP : va_P D vwCl w H) (hD : va_D A w) (hS : va_S A s.heap H locs) (hl : lv_has ls nL lv)
    (hM : ag_MI l y code maxL ret fr lo D cI cC cL (.ref b :: As) wc post) (hf : ag_fV y code maxL (some ret) As.length) (hlk : Cond.methodLink own index y ∈ gW) {put : va_W → va_W} (hcut : ag_cut w wc put)
    (he : w[q0]? = some (b, .inr (ci, fs))) (hcl : vwCl[ci]? = some cq) (hcq : cq.1 = y.cls) (hst : st0 = As.reverse ++ .ref b :: rest) (hcat : (rest.map fun v => v.category).sum ≤ 8) (hR : fr + 1 ≤ R.frames ∧ 8 + (maxL + 11) + lo ≤ R.locals) (hz : cells ≤ R.cells ∧ slots ≤ R.slots)
    (hdg : decode cc pc = .ok (.invokevirtual index, 3))
    (kk : ∀ (r : Int32) (w1 : va_W) (H1 : Heap) (locs1 : List Loc), post r w1 → va_P D vwCl (put w1) H1 → va_D A (put w1) → va_S A s.heap H1 locs1 → W p l e R s m args below meth c H1 locs1 cells slots Q (F0 m (pc + 3) ls (.int r :: rest))) :
    W p l e R s m args below meth c H locs cells slots Q (F0 m pc ls st0) := by
  subst hst
  obtain ⟨f1, f2, f3, f4, f5, f6, f7⟩ := hf
  obtain ⟨hPc, hDc, hjoin⟩ := hcut D vwCl A H hP hD
  have hFc : ∀ q, va_A wc H.size q → A q := by
    rintro q (⟨k, e, h⟩ | h)
    · exact hDc.2 k _ h
    · exact hA q (Nat.le_trans hS.1 h)
  have hp := ag_preS (av := .ref b :: As) hK hN hS hFc hPc hDc
  refine va_calli (va_runV (As := As) (rest := rest) (C := y.cls) ⟨hx, hb, hml, hown, hG⟩ (hM H.size) ⟨callB_of As.length hG (gW_good f1) rfl rfl rfl (hG _ f4) (hG _ hlk) ⟨f5, f6, f7⟩ hR, hG _ f2, hG _ f3⟩ ⟨hp.1, ?_, hp.2⟩ rfl rfl hl.1 rfl (lv_room hcat) hdg hz) hS (fun q _ h => hFc q h) hFc (fun r u t H1 locs1 ht hvm hw hB hz1 hk1 hS1 => ?_)
  · rw [← hcq]
    exact va_recv hK hP hcl he
  · obtain ⟨hP1, ha⟩ := hB
    rw [ht] at hP1
    obtain ⟨g1, g2⟩ := hjoin H1 u hk1 hP1 ha
    exact kk r u H1 locs1 hw g1 g2 hS1
theorem ag_callVv {own : String} {index maxL fr lo nL : Nat} {y : MethodName} {code : ByteArray} {post : va_W → Prop} {wc : va_W} {b : Nat} {As : List Value} {q0 ci : Nat} {fs : List Value} {cq : vw_C} {st0 : List Value} {lv : List (Nat × Value)}
    (hx : p.tables.exec = Jvm.exec) (hb : c.code = cc) (hml : c.maxLocals = nL) (hown : s.vm.findClass own = some m.cls) (hG : ∀ w ∈ gW, w.before args s = true) (hK : va_K D vwCl (ag_T cI cC cL) s) (hN : ag_NZ A s) (hA : ∀ q, s.heap.size ≤ q → A q) (hP : va_P D vwCl w H) (hD : va_D A w) (hS : va_S A s.heap H locs) (hl : lv_has ls nL lv)
    (hM : ag_MV l y code maxL fr lo D cI cC cL (.ref b :: As) wc post) (hf : ag_fV y code maxL none As.length) (hlk : Cond.methodLink own index y ∈ gW) {put : va_W → va_W} (hcut : ag_cut w wc put)
    (he : w[q0]? = some (b, .inr (ci, fs))) (hcl : vwCl[ci]? = some cq) (hcq : cq.1 = y.cls) (hst : st0 = As.reverse ++ .ref b :: rest) (hcat : (rest.map fun v => v.category).sum ≤ 8) (hR : fr + 1 ≤ R.frames ∧ 8 + (maxL + 11) + lo ≤ R.locals) (hz : cells ≤ R.cells ∧ slots ≤ R.slots)
    (hdg : decode cc pc = .ok (.invokevirtual index, 3))
    (kk : ∀ (w1 : va_W) (H1 : Heap) (locs1 : List Loc), post w1 → va_P D vwCl (put w1) H1 → va_D A (put w1) → va_S A s.heap H1 locs1 → W p l e R s m args below meth c H1 locs1 cells slots Q (F0 m (pc + 3) ls rest)) :
    W p l e R s m args below meth c H locs cells slots Q (F0 m pc ls st0) := by
  subst hst
  obtain ⟨f1, f2, f3, f4, f5, f6, f7⟩ := hf
  obtain ⟨hPc, hDc, hjoin⟩ := hcut D vwCl A H hP hD
  have hFc : ∀ q, va_A wc H.size q → A q := by
    rintro q (⟨k, e, h⟩ | h)
    · exact hDc.2 k _ h
    · exact hA q (Nat.le_trans hS.1 h)
  have hp := ag_preS (av := .ref b :: As) hK hN hS hFc hPc hDc
  refine va_callv (va_runV (As := As) (rest := rest) (C := y.cls) ⟨hx, hb, hml, hown, hG⟩ (hM H.size) ⟨callB_of As.length hG (gW_good f1) rfl rfl rfl (hG _ f4) (hG _ hlk) ⟨f5, f6, f7⟩ hR, hG _ f2, hG _ f3⟩ ⟨hp.1, ?_, hp.2⟩ rfl rfl hl.1 rfl (lv_room hcat) hdg hz) hS (fun q _ h => hFc q h) hFc (fun u t H1 locs1 ht hvm hw hB hz1 hk1 hS1 => ?_)
  · rw [← hcq]
    exact va_recv hK hP hcl he
  · obtain ⟨hP1, ha⟩ := hB
    rw [ht] at hP1
    obtain ⟨g1, g2⟩ := hjoin H1 u hk1 hP1 ha
    exact kk u H1 locs1 hw g1 g2 hS1
theorem ag_callSi {own : String} {index maxL fr lo nL : Nat} {y : MethodName} {code : ByteArray} {ret : FieldType} {post : Int32 → va_W → Prop} {wc : va_W} {As : List Value} {st0 : List Value} {lv : List (Nat × Value)}
    (hx : p.tables.exec = Jvm.exec) (hb : c.code = cc) (hml : c.maxLocals = nL) (hown : s.vm.findClass own = some m.cls) (hG : ∀ w ∈ gW, w.before args s = true) (hK : va_K D vwCl (ag_T cI cC cL) s) (hN : ag_NZ A s) (hA : ∀ q, s.heap.size ≤ q → A q) (hP : va_P D vwCl w H) (hD : va_D A w) (hS : va_S A s.heap H locs) (hl : lv_has ls nL lv)
    (hM : ag_MI l y code maxL ret fr lo D cI cC cL As wc post) (hf : ag_fS y code maxL (some ret) As.length) (hlk : Cond.methodLink own index y ∈ gW) {put : va_W → va_W} (hcut : ag_cut w wc put)
    (hst : st0 = As.reverse ++ rest) (hcat : (rest.map fun v => v.category).sum ≤ 8) (hR : fr + 1 ≤ R.frames ∧ 8 + (maxL + 11) + lo ≤ R.locals) (hz : cells ≤ R.cells ∧ slots ≤ R.slots)
    (hdg : decode cc pc = .ok (.invokestatic index, 3))
    (kk : ∀ (r : Int32) (w1 : va_W) (H1 : Heap) (locs1 : List Loc), post r w1 → va_P D vwCl (put w1) H1 → va_D A (put w1) → va_S A s.heap H1 locs1 → W p l e R s m args below meth c H1 locs1 cells slots Q (F0 m (pc + 3) ls (.int r :: rest))) :
    W p l e R s m args below meth c H locs cells slots Q (F0 m pc ls st0) := by
  subst hst
  obtain ⟨f1, f2, f4, f5, f6, f7⟩ := hf
  obtain ⟨hPc, hDc, hjoin⟩ := hcut D vwCl A H hP hD
  have hFc : ∀ q, va_A wc H.size q → A q := by
    rintro q (⟨k, e, h⟩ | h)
    · exact hDc.2 k _ h
    · exact hA q (Nat.le_trans hS.1 h)
  have hp := ag_preS (av := As) hK hN hS hFc hPc hDc
  refine va_calli (va_runS (As := As) (rest := rest) ⟨hx, hb, hml, hown, hG⟩ (hM H.size) ⟨callB_of As.length hG (gW_good f1) rfl rfl rfl (hG _ f4) (hG _ hlk) ⟨f5, f6, f7⟩ hR, hG _ f2⟩ hp rfl rfl hl.1 rfl (lv_room hcat) hdg hz) hS (fun q _ h => hFc q h) hFc (fun r u t H1 locs1 ht hvm hw hB hz1 hk1 hS1 => ?_)
  obtain ⟨hP1, ha⟩ := hB
  rw [ht] at hP1
  obtain ⟨g1, g2⟩ := hjoin H1 u hk1 hP1 ha
  exact kk r u H1 locs1 hw g1 g2 hS1
theorem ag_callSv {own : String} {index maxL fr lo nL : Nat} {y : MethodName} {code : ByteArray} {post : va_W → Prop} {wc : va_W} {As : List Value} {st0 : List Value} {lv : List (Nat × Value)}
    (hx : p.tables.exec = Jvm.exec) (hb : c.code = cc) (hml : c.maxLocals = nL) (hown : s.vm.findClass own = some m.cls) (hG : ∀ w ∈ gW, w.before args s = true) (hK : va_K D vwCl (ag_T cI cC cL) s) (hN : ag_NZ A s) (hA : ∀ q, s.heap.size ≤ q → A q) (hP : va_P D vwCl w H) (hD : va_D A w) (hS : va_S A s.heap H locs) (hl : lv_has ls nL lv)
    (hM : ag_MV l y code maxL fr lo D cI cC cL As wc post) (hf : ag_fS y code maxL none As.length) (hlk : Cond.methodLink own index y ∈ gW) {put : va_W → va_W} (hcut : ag_cut w wc put)
    (hst : st0 = As.reverse ++ rest) (hcat : (rest.map fun v => v.category).sum ≤ 8) (hR : fr + 1 ≤ R.frames ∧ 8 + (maxL + 11) + lo ≤ R.locals) (hz : cells ≤ R.cells ∧ slots ≤ R.slots)
    (hdg : decode cc pc = .ok (.invokestatic index, 3))
    (kk : ∀ (w1 : va_W) (H1 : Heap) (locs1 : List Loc), post w1 → va_P D vwCl (put w1) H1 → va_D A (put w1) → va_S A s.heap H1 locs1 → W p l e R s m args below meth c H1 locs1 cells slots Q (F0 m (pc + 3) ls rest)) :
    W p l e R s m args below meth c H locs cells slots Q (F0 m pc ls st0) := by
  subst hst
  obtain ⟨f1, f2, f4, f5, f6, f7⟩ := hf
  obtain ⟨hPc, hDc, hjoin⟩ := hcut D vwCl A H hP hD
  have hFc : ∀ q, va_A wc H.size q → A q := by
    rintro q (⟨k, e, h⟩ | h)
    · exact hDc.2 k _ h
    · exact hA q (Nat.le_trans hS.1 h)
  have hp := ag_preS (av := As) hK hN hS hFc hPc hDc
  refine va_callv (va_runS (As := As) (rest := rest) ⟨hx, hb, hml, hown, hG⟩ (hM H.size) ⟨callB_of As.length hG (gW_good f1) rfl rfl rfl (hG _ f4) (hG _ hlk) ⟨f5, f6, f7⟩ hR, hG _ f2⟩ hp rfl rfl hl.1 rfl (lv_room hcat) hdg hz) hS (fun q _ h => hFc q h) hFc (fun u t H1 locs1 ht hvm hw hB hz1 hk1 hS1 => ?_)
  obtain ⟨hP1, ha⟩ := hB
  rw [ht] at hP1
  obtain ⟨g1, g2⟩ := hjoin H1 u hk1 hP1 ha
  exact kk u H1 locs1 hw g1 g2 hS1
/-- a static method of a nest mate -/
theorem ag_callNi {own host : String} {index maxL fr lo nL : Nat} {y : MethodName} {code : ByteArray} {ret : FieldType} {post : Int32 → va_W → Prop} {wc : va_W} {As : List Value} {st0 : List Value} {lv : List (Nat × Value)}
    (hx : p.tables.exec = Jvm.exec) (hb : c.code = cc) (hml : c.maxLocals = nL) (hown : s.vm.findClass own = some m.cls) (hG : ∀ w ∈ gW, w.before args s = true) (hK : va_K D vwCl (ag_T cI cC cL) s) (hN : ag_NZ A s) (hA : ∀ q, s.heap.size ≤ q → A q) (hP : va_P D vwCl w H) (hD : va_D A w) (hS : va_S A s.heap H locs) (hl : lv_has ls nL lv)
    (hM : ag_MI l y code maxL ret fr lo D cI cC cL As wc post) (hf : ag_fS y code maxL (some ret) As.length) (hlk : va_Nw (.methodLinkNest own index y host) s) {put : va_W → va_W} (hcut : ag_cut w wc put)
    (hst : st0 = As.reverse ++ rest) (hcat : (rest.map fun v => v.category).sum ≤ 8) (hR : fr + 1 ≤ R.frames ∧ 8 + (maxL + 11) + lo ≤ R.locals) (hz : cells ≤ R.cells ∧ slots ≤ R.slots)
    (hdg : decode cc pc = .ok (.invokestatic index, 3))
    (kk : ∀ (r : Int32) (w1 : va_W) (H1 : Heap) (locs1 : List Loc), post r w1 → va_P D vwCl (put w1) H1 → va_D A (put w1) → va_S A s.heap H1 locs1 → W p l e R s m args below meth c H1 locs1 cells slots Q (F0 m (pc + 3) ls (.int r :: rest))) :
    W p l e R s m args below meth c H locs cells slots Q (F0 m pc ls st0) := by
  subst hst
  obtain ⟨f1, f2, f4, f5, f6, f7⟩ := hf
  obtain ⟨hPc, hDc, hjoin⟩ := hcut D vwCl A H hP hD
  have hFc : ∀ q, va_A wc H.size q → A q := by
    rintro q (⟨k, e, h⟩ | h)
    · exact hDc.2 k _ h
    · exact hA q (Nat.le_trans hS.1 h)
  have hp := ag_preS (av := As) hK hN hS hFc hPc hDc
  refine va_calli (va_runSN (As := As) (rest := rest) ⟨hx, hb, hml, hown, hG⟩ (hM H.size) ⟨va_cnB As.length hG (gW_good f1) rfl rfl rfl hlk (hG _ f4) ⟨f5, f6, f7⟩ hR, hG _ f2, trivial⟩ hp rfl rfl hl.1 rfl (lv_room hcat) hdg hz) hS (fun q _ h => hFc q h) hFc (fun r u t H1 locs1 ht hvm hw hB hz1 hk1 hS1 => ?_)
  obtain ⟨hP1, ha⟩ := hB
  rw [ht] at hP1
  obtain ⟨g1, g2⟩ := hjoin H1 u hk1 hP1 ha
  exact kk r u H1 locs1 hw g1 g2 hS1
/-- a method's end -/
theorem ag_iret {w0 w' : va_W} (as : List Nat) {post : Int32 → va_W → Prop} {r : Int32} {ty : FieldType} (hx : p.tables.exec = Jvm.exec) (hb : c.code = cc) (hr : meth.sig.returnType = some ty) (hn : narrow ty (.int r) = .int r) (hlocks : meth.locks = false) (hP : va_P D vwCl w' H) (hS : va_S A s.heap H locs) (ha : w'.map Prod.fst = as) (ha2 : w0.map Prod.fst = as) (hpost : post r w') (hdg : decode cc pc = .ok (.ireturn, 1)) :
    W p l e R s m args below meth c H locs 0 0 (MQ below (va_Qi post (ag_Out D w0) A) args s 0 0 A) (F0 m pc ls [.int r]) :=
  W.zret hx hb hr hn (fun t ht hW => ⟨⟨r, w', rfl, hpost, by rw [ht]; exact hP, ha.trans ha2.symm⟩, hS.F ht⟩) hS.2.2 hdg hlocks
theorem ag_vret {w0 w' : va_W} (as : List Nat) {post : va_W → Prop} (hx : p.tables.exec = Jvm.exec) (hb : c.code = cc) (hr : meth.sig.returnType = none) (hlocks : meth.locks = false) (hP : va_P D vwCl w' H) (hS : va_S A s.heap H locs) (ha : w'.map Prod.fst = as) (ha2 : w0.map Prod.fst = as) (hpost : post w') (hdg : decode cc pc = .ok (.return_, 1)) :
    W p l e R s m args below meth c H locs 0 0 (MQ below (va_Qv post (ag_Out D w0) A) args s 0 0 A) (F0 m pc ls []) :=
  W.vret hx hb hr (fun t ht hW => ⟨⟨w', rfl, hpost, by rw [ht]; exact hP, ha.trans ha2.symm⟩, hS.F ht⟩) hS.2.2 hdg hlocks
end AGW
/-- a method's beginning: its body, from its entry, over what its start gives -/
def ag_Body (l : Launch) (own : String) (cc : ByteArray) (maxL : Nat) (ret : Option FieldType) (nm : String) (R : Room) (D : va_G) (cI cC cL : ClassId) (av : List Value) (w : va_W) (Qx : (Nat → Prop) → Array Value → State → Outcome → State → Prop) (mc ms : Nat) : Prop :=
  ∀ (p : Program) (e : Env) (s : State) (m : MethodId) (below : List Frame) (meth : Method) (c : Code), p.tables.exec = Jvm.exec → c.code = cc → meth.sig.returnType = ret → meth.locks = false → c.maxLocals = maxL → s.vm.findClass own = some m.cls → meth.name = nm →
    (∀ w ∈ gW, w.before av.toArray s = true) → va_K D vwCl (ag_T cI cC cL) s →
    ∀ A : Nat → Prop, ag_NZ A s → (∀ q, s.heap.size ≤ q → A q) → ∀ (H : Heap) (locs : List Loc), va_P D vwCl w H → va_D A w → va_S A s.heap H locs →
    ∀ ls : Array Slot, lv_has ls maxL (lv_args 0 av) → W p l e R s m av.toArray below meth c H locs 0 0 (MQ below (Qx A) av.toArray s mc ms A) (F0 m 0 ls [])
theorem ag_ofW {l : Launch} {y : MethodName} {ws ws' : List Cond} {rm : Room} {Pc : Array Value → State → Prop} {Qc : Array Value → State → Outcome → State → Prop} {mc ms : Nat} {free : Addr → Prop} {cc : ByteArray} {maxL : Nat} {ret : Option FieldType}
    (hy : plainFor y = true) (hw : ws = Cond.code y cc maxL ret :: ws')
    (body : ∀ p e s m args below meth c s₁, BodyLoose p l y (headSpec ws rm) cc maxL ret e s m args below meth c s₁ → c.maxLocals = maxL → Pc args s →
      W p l e (headSpec ws rm).room s m args below meth c s.heap [] 0 0 (MQ below Qc args s mc ms free) (entryFrame m args maxL)) : Met l y ws rm Pc Qc mc ms free := by
  refine MetFree.of_bodySF (code := cc) (maxLocals := maxL) (ret := ret) hy ?_ ?_
  · intro args s m h hn
    obtain ⟨meth, c, h1, h2, h3, h4, h5, h6, -, -⟩ := Cond.code_spec hn (atoms_spec (ws := ws) h _ (by rw [hw]; exact List.mem_cons_self))
    exact ⟨meth, c, h1, h2, h3, h4, h5, h6⟩
  · intro p e s m args below meth c s₁ B hml hP _
    have hh0 : s₁.heap = s.heap := by rw [B.state]; rfl
    obtain ⟨t, a1, o, b1, b2, b3⟩ := body p e s m args below meth c s₁ B hml hP s₁ hh0 (Stand.of_body B)
    exact ⟨t, o, a1, b1, b2, ⟨b3.1, b3.2⟩⟩
theorem ag_body {l : Launch} {y : MethodName} {cc : ByteArray} {maxL : Nat} {ret : Option FieldType} {rm : Room} {D : va_G} {cI cC cL : ClassId} {av : List Value} {w : va_W} {Qx : (Nat → Prop) → Array Value → State → Outcome → State → Prop} {mc ms sz : Nat} (hy : plainFor y = true) (hav : (lg_sl av).length ≤ maxL)
    (h : ag_Body l y.cls cc maxL ret y.name rm D cI cC cL av w Qx mc ms) : Met l y (.code y cc maxL ret :: gW) rm (va_Pc av (ag_In D cI cC cL w sz)) (Qx (va_A w sz)) mc ms (va_A w sz) := by
  refine ag_ofW (cc := cc) (maxL := maxL) (ret := ret) hy rfl ?_
  intro p e s m args below meth c s₁ B hml hv
  obtain ⟨rfl, hsz, hP, hK, hD0, hN, hZ⟩ := hv
  have hts := atoms_spec (ws := .code y cc maxL ret :: gW) B.pre
  subst hsz
  have hl := lv_entry av (n := maxL) hav
  rw [lg_entry_eq]
  exact h p e s m below meth c B.exec B.bytes B.returns B.notSynchronized hml (findClass_of_methodNamed B.named) (name_of_methodNamed B.named B.method).1 (fun w hw => hts w (List.mem_cons_of_mem _ hw)) hK _ ⟨hN, hZ⟩ (fun q hq => Or.inr hq) _ _ hP hD0.self va_S.rf _ hl
theorem ag_MI.of {l : Launch} {y : MethodName} {cc : ByteArray} {maxL : Nat} {ret : FieldType} {fr lo : Nat} {D : va_G} {cI cC cL : ClassId} {av : List Value} {w : va_W} {post : Int32 → va_W → Prop} (hy : plainFor y = true) (hav : (lg_sl av).length ≤ maxL)
    (h : ag_Body l y.cls cc maxL (some ret) y.name (ag_rm fr lo) D cI cC cL av w (fun A => va_Qi post (ag_Out D w) A) 0 0) : ag_MI l y cc maxL ret fr lo D cI cC cL av w post := fun _ => ag_body hy hav h
theorem ag_MV.of {l : Launch} {y : MethodName} {cc : ByteArray} {maxL : Nat} {fr lo : Nat} {D : va_G} {cI cC cL : ClassId} {av : List Value} {w : va_W} {post : va_W → Prop} (hy : plainFor y = true) (hav : (lg_sl av).length ≤ maxL)
    (h : ag_Body l y.cls cc maxL none y.name (ag_rm fr lo) D cI cC cL av w (fun A => va_Qv post (ag_Out D w) A) 0 0) : ag_MV l y cc maxL fr lo D cI cC cL av w post := fun _ => ag_body hy hav h
