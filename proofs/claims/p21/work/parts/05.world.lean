/-! ===== worlds by name: contents M (a name, what lies there), addresses ad (a name, where) ===== -/
abbrev mC : Type := Nat → Option va_E
abbrev mU (M : mC) (k : Nat) (e : va_E) : mC := va_up M k (some e)
abbrev mT (cy : Nat → ClassId) : List (ClassId × FieldType) := [(cy 0, .int), (cy 1, .object "SealedCupboards$Cupboard"), (cy 2, .object "SealedCupboards$Seal"), (cy 3, .array .int)]
def mW (G : va_G) (ad : Nat → Nat) (M : mC) (H : Heap) : Prop :=
  (∀ k e, M k = some e → va_at G vwCl (ad k, e) H) ∧ (∀ k j, M k ≠ none → M j ≠ none → ad k = ad j → k = j) ∧ ∀ k, 500 ≤ k → M k = none
def mA (ad : Nat → Nat) (M : mC) (sz : Nat) : Nat → Prop := fun q => (∃ k, M k ≠ none ∧ ad k = q) ∨ sz ≤ q
def mE (G : va_G) (A : Nat → Prop) (H0 : Heap) (ad : Nat → Nat) (M : mC) (H : Heap) (locs : List Loc) : Prop :=
  mW G ad M H ∧ (∀ k, M k ≠ none → A (ad k)) ∧ (∀ q, H0.size ≤ q → A q) ∧ va_S A H0 H locs
def mL (ad : Nat → Nat) (M : mC) : va_W := (List.range 500).filterMap (fun k => (M k).map (fun e => (ad k, e)))
section MWL
variable {G : va_G} {A : Nat → Prop} {H0 H : Heap} {ad : Nat → Nat} {M : mC} {locs : List Loc} {k : Nat} {e e0 : va_E}
theorem mL_at (hb : ∀ k, 500 ≤ k → M k = none) (h : M k = some e) : ∃ q : Nat, (mL ad M)[q]? = some (ad k, e) := by
  have hk : k < 500 := by
    rcases Nat.lt_or_ge k 500 with h1 | h1
    · exact h1
    · rw [hb k h1] at h; cases h
  have hm : (ad k, e) ∈ mL ad M := List.mem_filterMap.mpr ⟨k, List.mem_range.mpr hk, by rw [h]; rfl⟩
  exact List.getElem?_of_mem hm
theorem mL_of {q : Nat} {x : Nat × va_E} (h : (mL ad M)[q]? = some x) : ∃ k e, M k = some e ∧ x = (ad k, e) := by
  obtain ⟨k, -, hk⟩ := List.mem_filterMap.mp (List.mem_of_getElem? h)
  cases hM : M k with
  | none => rw [hM] at hk; cases hk
  | some e =>
    rw [hM] at hk
    exact ⟨k, e, hM, (Option.some.inj hk).symm⟩
theorem mL_pw (hi : ∀ k j, M k ≠ none → M j ≠ none → ad k = ad j → k = j) : (mL ad M).Pairwise (fun x y => x.1 ≠ y.1) := by
  unfold mL
  rw [List.pairwise_filterMap]
  refine List.pairwise_lt_range.imp ?_
  intro a b hab x hx y hy hxy
  cases ha : M a with
  | none => rw [ha] at hx; cases hx
  | some ea =>
    cases hb : M b with
    | none => rw [hb] at hy; cases hy
    | some eb =>
      rw [ha] at hx
      rw [hb] at hy
      have e1 : (ad a, ea) = x := Option.some.inj hx
      have e2 : (ad b, eb) = y := Option.some.inj hy
      subst e1
      subst e2
      have h3 := hi a b (by rw [ha]; exact fun h => by cases h) (by rw [hb]; exact fun h => by cases h) hxy
      omega
theorem mL_inj (hi : ∀ k j, M k ≠ none → M j ≠ none → ad k = ad j → k = j) {i j : Nat} {x y : Nat × va_E} (h1 : (mL ad M)[i]? = some x) (h2 : (mL ad M)[j]? = some y) (h : x.1 = y.1) : i = j := by
  have pw := mL_pw hi
  rw [List.pairwise_iff_getElem] at pw
  obtain ⟨l1, e1⟩ := List.getElem?_eq_some_iff.mp h1
  obtain ⟨l2, e2⟩ := List.getElem?_eq_some_iff.mp h2
  rcases Nat.lt_trichotomy i j with h3 | h3 | h3
  · exact absurd (by rw [e1, e2]; exact h) (pw i j l1 l2 h3)
  · exact h3
  · exact absurd (by rw [e1, e2]; exact h.symm) (pw j i l2 l1 h3)
theorem mE_P (hE : mE G A H0 ad M H locs) : va_P G vwCl (mL ad M) H := by
  intro q x hq
  obtain ⟨k, e, h1, rfl⟩ := mL_of hq
  exact hE.1.1 k e h1
theorem mE_P1 (hE : mE G A H0 ad M H locs) (h : M k = some e) : va_P G vwCl [(ad k, e)] H := by
  intro i x hx
  have hm := List.mem_of_getElem? hx
  rw [List.mem_singleton] at hm
  subst hm
  exact hE.1.1 k e h
theorem mE_D (hE : mE G A H0 ad M H locs) : va_D A (mL ad M) := by
  refine ⟨fun i j x y hi hj h => mL_inj hE.1.2.1 hi hj h, fun q x hq => ?_⟩
  obtain ⟨k, e, h1, rfl⟩ := mL_of hq
  exact hE.2.1 k (by rw [h1]; exact fun h => by cases h)
theorem mE_A (hE : mE G A H0 ad M H locs) : ∀ q, mA ad M H.size q → A q := by
  intro q h
  rcases h with ⟨k, hk, rfl⟩ | h
  · exact hE.2.1 k hk
  · exact hE.2.2.1 q (Nat.le_trans hE.2.2.2.1 h)
theorem mU_dom (hC : M k = some e0) {j : Nat} (hj : mU M k e j ≠ none) : M j ≠ none := by
  by_cases h : j = k
  · rw [h, hC]; exact fun h => by cases h
  · intro h2
    refine hj ?_
    show (if j = k then some e else M j) = none
    rw [if_neg h]; exact h2
theorem mE_set {q0 : Nat} (hE : mE G A H0 ad M H locs) (hC : M k = some e0) (hq : (mL ad M)[q0]? = some (ad k, e0)) {H1 : Heap} {locs1 : List Loc} (hP : va_P G vwCl ((mL ad M).set q0 (ad k, e)) H1) (hS : va_S A H0 H1 locs1) : mE G A H0 ad (mU M k e) H1 locs1 := by
  have hlen := (List.getElem?_eq_some_iff.mp hq).1
  refine ⟨⟨fun j e' hj => ?_, fun a b ha hb => hE.1.2.1 a b (mU_dom hC ha) (mU_dom hC hb), fun j hj => ?_⟩, fun j hj => hE.2.1 j (mU_dom hC hj), hE.2.2.1, hS⟩
  · have hj' : (if j = k then some e else M j) = some e' := hj
    by_cases h : j = k
    · rw [if_pos h] at hj'
      cases hj'
      subst h
      exact hP q0 _ (List.getElem?_set_self hlen)
    · rw [if_neg h] at hj'
      obtain ⟨i, hi⟩ := mL_at (ad := ad) hE.1.2.2 hj'
      have hne : q0 ≠ i := by
        intro h3
        subst h3
        rw [hi] at hq
        have h4 : ad j = ad k := congrArg Prod.fst (Option.some.inj hq)
        exact h (hE.1.2.1 j k (by rw [hj']; exact fun h => by cases h) (by rw [hC]; exact fun h => by cases h) h4)
      exact hP i _ (by rw [List.getElem?_set_ne hne]; exact hi)
  · have h0 := hE.1.2.2 j hj
    by_cases h : j = k
    · subst h
      rw [h0] at hC
      cases hC
    · show (if j = k then some e else M j) = none
      rw [if_neg h]; exact h0
/-- a new cell gets a name -/
theorem mE_new {q : Nat} (hE : mE G A H0 ad M H locs) (hk : M k = none) (hk5 : k < 500) {H1 : Heap} {locs1 : List Loc} (hP : va_P G vwCl (mL ad M ++ [(q, e)]) H1) (hD : va_D A (mL ad M ++ [(q, e)])) (hS : va_S A H0 H1 locs1) : mE G A H0 (va_up ad k q) (mU M k e) H1 locs1 := by
  have hlast : (mL ad M ++ [(q, e)])[(mL ad M).length]? = some (q, e) := by
    rw [List.getElem?_append_right (Nat.le_refl _), Nat.sub_self]; rfl
  have hold : ∀ {i : Nat} {x : Nat × va_E}, (mL ad M)[i]? = some x → (mL ad M ++ [(q, e)])[i]? = some x := by
    intro i x hx
    rw [List.getElem?_append_left (List.getElem?_eq_some_iff.mp hx).1]; exact hx
  have hfresh : ∀ j, M j ≠ none → ad j ≠ q := by
    intro j hj hjq
    cases hM : M j with
    | none => exact hj hM
    | some e' =>
      obtain ⟨i, hi⟩ := mL_at (ad := ad) hE.1.2.2 hM
      have h9 := hD.1 i _ _ _ (hold hi) hlast hjq
      have := (List.getElem?_eq_some_iff.mp hi).1
      omega
  have hup : ∀ j, j ≠ k → va_up ad k q j = ad j := fun j h => by
    show (if j = k then q else ad j) = ad j
    rw [if_neg h]
  have hupk : va_up ad k q k = q := by
    show (if k = k then q else ad k) = q
    rw [if_pos rfl]
  have hM' : ∀ j, j ≠ k → mU M k e j = M j := fun j h => by
    show (if j = k then some e else M j) = M j
    rw [if_neg h]
  have hMk : mU M k e k = some e := by
    show (if k = k then some e else M k) = some e
    rw [if_pos rfl]
  refine ⟨⟨fun j e' hj => ?_, fun a b ha hb hab => ?_, fun j hj => ?_⟩, fun j hj => ?_, hE.2.2.1, hS⟩
  · by_cases h : j = k
    · subst h
      rw [hMk] at hj
      cases hj
      rw [hupk]
      exact hP _ _ hlast
    · rw [hM' j h] at hj
      rw [hup j h]
      obtain ⟨i, hi⟩ := mL_at (ad := ad) hE.1.2.2 hj
      exact hP i _ (hold hi)
  · by_cases h1 : a = k <;> by_cases h2 : b = k
    · rw [h1, h2]
    · subst h1
      rw [hM' b h2] at hb
      rw [hupk, hup b h2] at hab
      exact absurd hab.symm (hfresh b hb)
    · subst h2
      rw [hM' a h1] at ha
      rw [hupk, hup a h1] at hab
      exact absurd hab (hfresh a ha)
    · rw [hM' a h1] at ha
      rw [hM' b h2] at hb
      rw [hup a h1, hup b h2] at hab
      exact hE.1.2.1 a b ha hb hab
  · have h : j ≠ k := by omega
    rw [hM' j h]
    exact hE.1.2.2 j hj
  · by_cases h : j = k
    · subst h
      rw [hupk]
      exact hD.2 _ _ hlast
    · rw [hM' j h] at hj
      rw [hup j h]
      exact hE.2.1 j hj
end MWL
/-! ===== what the tables and the statics say all along ===== -/
theorem va_AOA.moved {ty : FieldType} {u U : State} (hvm : u.vm.Alike U.vm) (h : va_AOA ty u) : va_AOA ty U := by
  obtain ⟨c0, c1, k1, h1, h2, h3, h4, h5⟩ := arrayOverA_spec h
  obtain ⟨k2, g3, g4⟩ := hvm.2.2 _ _ h3
  have f0 : U.vm.findClass (FieldType.array ty).toString = some c0 := by rw [hvm.findClass]; exact h1
  have f1 : U.vm.findClass ("[" ++ (FieldType.array ty).toString) = some c1 := by rw [hvm.findClass]; exact h5
  have f2 : (U.vm.classes.findIdx? fun (x : Class) => match x.kind with | .array component _ => component == c0 | _ => false) = some c1 := by
    have i1 := va_idx_bare U.vm c0
    have i2 := va_idx_bare u.vm c0
    first | rw [hvm.bare_eq] at i1 | rw [← hvm.bare_eq] at i1
    exact i1.symm.trans (i2.trans h2)
  have f3 : k2.kind = .array c0 (.array ty) := by rw [g4]; exact h4
  unfold va_AOA Cond.before Cond.holds
  simp only [Cond.value]
  rw [f0, Option.bind_some]
  refine (congrArg (fun o : Option Nat => (o.bind (fun c => (U.vm.classes[c]?).map fun (k : Class) => match k.kind with | .array _ ty9 => decide (ty9 = FieldType.array ty) && decide (U.vm.findClass ("[" ++ (FieldType.array ty).toString) = some c) | _ => false) == some true)) f2).trans ?_
  simp [g3, f3, f1]
def mNw : List Cond := [.fieldLinkNest RX2 109 RX1 "cupboard" "I" RX2, .fieldLinkNest RX2 112 RX1 "root" "I" RX2, .fieldLinkNest RX2 114 RX1 "changes" "I" RX2, .fieldLinkNest RX2 48 RX0 "things" "[I" RX2, .fieldLinkNest RX2 55 RX0 "sums" "[I" RX2, .fieldLinkNest RX2 80 RX0 "changes" "I" RX2, .methodLinkNest RX2 36 yX0_init RX2, .methodLinkNest RX2 51 yX0_lay RX2, .methodLinkNest RX2 76 yX0_root RX2, .methodLinkNest RX2 83 yX0_filledDrawers RX2, .methodLinkNest RX2 86 yX0_thingsAdded RX2, .methodLinkNest RX2 102 yX1_init RX2, .methodLinkNest RX2 117 yX0_proofSum RX2, .methodLinkNest RX0 18 yX2_sumOfThing RX2, .methodLinkNest RX0 22 yX2_sumOfSums RX2, .methodLinkNest RX0 30 yX2_sumUp RX2, .methodLinkNest RL 60 yX3_init RL]
theorem mNw_on : ∀ w ∈ mNw, w.onTables = true := by
  intro w hw
  simp only [mNw, List.mem_cons, List.not_mem_nil, or_false] at hw
  rcases hw with rfl | rfl | rfl | rfl | rfl | rfl | rfl | rfl | rfl | rfl | rfl | rfl | rfl | rfl | rfl | rfl | rfl <;> rfl
theorem mNw_warm {s U : State} (hW : s.WarmedH U.vm) : ∀ w ∈ mNw, va_Nw w s → va_Nw w U := by
  intro w hw
  simp only [mNw, List.mem_cons, List.not_mem_nil, or_false] at hw
  rcases hw with rfl | rfl | rfl | rfl | rfl | rfl | rfl | rfl | rfl | rfl | rfl | rfl | rfl | rfl | rfl | rfl | rfl <;> first | exact va_Nw.warmF hW | exact va_Nw.warmM hW
def mN (G : va_G) (cy : Nat → ClassId) (A : Nat → Prop) (U : State) : Prop :=
  va_K G vwCl (mT cy) U ∧ (∀ w ∈ mNw, va_Nw w U) ∧ (va_AO "SealedCupboards$Cupboard" U ∧ va_AO "SealedCupboards$Seal" U) ∧ va_AOA .int U
section MNS
variable {G : va_G} {cy : Nat → ClassId} {A : Nat → Prop} {s U : State}
theorem mN_same (hv : U.vm = s.vm) (hh : U.heap = s.heap) (h : mN G cy A s) : mN G cy A U := by
  obtain ⟨h1, h2, ⟨h3, h3b⟩, h4⟩ := h
  have hal : s.vm.Alike U.vm := by rw [hv]; exact Vm.Alike.refl _
  exact ⟨h1.moved hal, fun w hw => va_tabs (mNw_on w hw) hv.symm (h2 w hw), ⟨h3.moved hal, h3b.moved hal⟩, h4.moved hal⟩
theorem mN_next {B : Nat → Prop} {H : Heap} (h : mN G cy A s) (hq : ∀ a : Nat, a < s.heap.size → ¬ A a → H[a]? = s.heap[a]?) (hAB : ∀ q, B q → A q) (hU : U.heap = H) (hW : s.WarmedH U.vm) : mN G cy B U := by
  obtain ⟨h1, h2, ⟨h3, h3b⟩, h4⟩ := h
  exact ⟨h1.moved hW.alike, fun w hw => mNw_warm hW w hw (h2 w hw), ⟨h3.moved hW.alike, h3b.moved hW.alike⟩, h4.moved hW.alike⟩
end MNS
/-! ===== contracts over worlds by name ===== -/
def mP (G : va_G) (cy : Nat → ClassId) (ad : Nat → Nat) (M : mC) (sz : Nat) (U : State) : Prop := U.heap.size = sz ∧ mW G ad M U.heap ∧ mN G cy (mA ad M sz) U
def mB (G : va_G) (ad : Nat → Nat) (M : mC) (sz : Nat) (u : (Nat → Nat) × mC) (t : State) : Prop := mW G u.1 u.2 t.heap ∧ ∀ k, u.2 k ≠ none → mA ad M sz (u.1 k)
abbrev mMi (l : Launch) (y : MethodName) (ws : List Cond) (rm : Room) (G : va_G) (cy : Nat → ClassId) (ad : Nat → Nat) (M : mC) (sz : Nat) (av : List Value) (mc ms : Nat) (post : Int32 → (Nat → Nat) × mC → Prop) : Prop := Met l y ws rm (va_Pc av (mP G cy ad M sz)) (va_Qi post (mB G ad M sz) (mA ad M sz)) mc ms (mA ad M sz)
abbrev mMv (l : Launch) (y : MethodName) (ws : List Cond) (rm : Room) (G : va_G) (cy : Nat → ClassId) (ad : Nat → Nat) (M : mC) (sz : Nat) (av : List Value) (mc ms : Nat) (post : (Nat → Nat) × mC → Prop) : Prop := Met l y ws rm (va_Pc av (mP G cy ad M sz)) (va_Qv post (mB G ad M sz) (mA ad M sz)) mc ms (mA ad M sz)
abbrev mMq (l : Launch) (y : MethodName) (ws : List Cond) (rm : Room) (G : va_G) (cy : Nat → ClassId) (ad : Nat → Nat) (M : mC) (sz : Nat) (av : List Value) (mc ms : Nat) (post : Option Nat → (Nat → Nat) × mC → Prop) : Prop := Met l y ws rm (va_Pc av (mP G cy ad M sz)) (va_Qq post (mB G ad M sz) (mA ad M sz)) mc ms (mA ad M sz)
section MCT
variable {G : va_G} {cy : Nat → ClassId} {A : Nat → Prop} {ad ad' : Nat → Nat} {M M' : mC} {s t : State} {H H0 H1 : Heap} {locs locs1 : List Loc} {k ci sz : Nat} {av As : List Value}
theorem mP_E (h : mP G cy ad M s.heap.size s) : mE G (mA ad M s.heap.size) s.heap ad M s.heap [] := ⟨h.2.1, fun k hk => Or.inl ⟨k, hk, rfl⟩, fun q hq => Or.inr hq, va_S.rf⟩
theorem mP_blind : FrameBlind (va_Pc av (mP G cy ad M sz)) := fun a U g mk h => ⟨h.1, h.2.1, h.2.2.1, mN_same (s := U) (U := U.calling g mk a) rfl rfl h.2.2.2⟩
theorem mP_U (hN : mN G cy A s) (hE : mE G A s.heap ad M H locs) {U : State} (hU : U.heap = H) (hW : s.WarmedH U.vm) : mP G cy ad M H.size U := ⟨by rw [hU], by rw [hU]; exact hE.1, mN_next hN hE.2.2.2.2.1 (mE_A hE) hU hW⟩
theorem mP_S (hN : mN G cy A s) (hE : mE G A s.heap ad M H locs) : PreS s H (va_Pc av (mP G cy ad M H.size)) av := ⟨mP_blind, fun U hU hW => ⟨rfl, mP_U hN hE hU hW⟩⟩
theorem mP_V (hN : mN G cy A s) (hE : mE G A s.heap ad M H locs) {r : vw_C} {fs : List Value} (hC : M k = some (.inr (ci, fs))) (hc : vwCl[ci]? = some r) : PreV s H r.1 (ad k) (va_Pc (.ref (ad k) :: As) (mP G cy ad M H.size)) As := ⟨mP_blind, va_recv (q0 := 0) (fs := fs) hN.1 (mE_P1 hE hC) hc rfl, fun U hU hW => ⟨rfl, mP_U hN hE hU hW⟩⟩
theorem mE_call (hE : mE G A H0 ad M H locs) {u : (Nat → Nat) × mC} (hB : mB G ad M H.size u t) (ht : t.heap = H1) (hS : va_S A H0 H1 locs1) : mE G A H0 u.1 u.2 H1 locs1 := ⟨by rw [← ht]; exact hB.1, fun k hk => mE_A hE _ (hB.2 k hk), hE.2.2.1, hS⟩
theorem mE_end (hE : mE G (mA ad M s.heap.size) s.heap ad' M' H locs) (ht : t.heap = H) : mB G ad M s.heap.size (ad', M') t := ⟨by rw [ht]; exact hE.1, hE.2.1⟩
end MCT
