/-! ===== rows of rows, and worlds whose names change ===== -/
theorem mE_ren {G : va_G} {A : Nat → Prop} {H0 H : Heap} {ad ad' : Nat → Nat} {M M' : mC} {locs : List Loc} (hE : mE G A H0 ad M H locs) (σ : Nat → Nat) (h : ∀ k e, M' k = some e → M (σ k) = some e ∧ ad' k = ad (σ k)) (hi : ∀ k j, M' k ≠ none → M' j ≠ none → σ k = σ j → k = j) (hb : ∀ k, 500 ≤ k → M' k = none) : mE G A H0 ad' M' H locs := by
  have hn : ∀ k, M' k ≠ none → ∃ e, M' k = some e := fun k hk => by
    cases hM : M' k with
    | none => exact absurd hM hk
    | some e => exact ⟨e, rfl⟩
  refine ⟨⟨fun k e hk => ?_, fun k j hk hj hkj => ?_, hb⟩, fun k hk => ?_, hE.2.2.1, hE.2.2.2⟩
  · obtain ⟨h1, h2⟩ := h k e hk
    rw [h2]
    exact hE.1.1 _ _ h1
  · obtain ⟨e1, g1⟩ := hn k hk
    obtain ⟨e2, g2⟩ := hn j hj
    obtain ⟨a1, a2⟩ := h k e1 g1
    obtain ⟨b1, b2⟩ := h j e2 g2
    rw [a2, b2] at hkj
    exact hi k j hk hj (hE.1.2.1 _ _ (by rw [a1]; exact fun h => by cases h) (by rw [b1]; exact fun h => by cases h) hkj)
  · obtain ⟨e1, g1⟩ := hn k hk
    obtain ⟨a1, a2⟩ := h k e1 g1
    rw [a2]
    exact hE.2.1 _ (by rw [a1]; exact fun h => by cases h)
/-- names are dropped -/
theorem mE_drop {G : va_G} {A : Nat → Prop} {H0 H : Heap} {ad : Nat → Nat} {M M' : mC} {locs : List Loc} (hE : mE G A H0 ad M H locs) (h : ∀ k e, M' k = some e → M k = some e) : mE G A H0 ad M' H locs :=
  mE_ren hE (fun k => k) (fun k e hk => ⟨h k e hk, rfl⟩) (fun _ _ _ _ h => h) (fun k hk => by
    cases hM : M' k with
    | none => rfl
    | some e =>
      have h1 := h k e hM
      rw [hE.1.2.2 k hk] at h1
      cases h1)
/-- addresses of names that aren't there don't matter -/
theorem mE_adr {G : va_G} {A : Nat → Prop} {H0 H : Heap} {ad ad' : Nat → Nat} {M : mC} {locs : List Loc} (hE : mE G A H0 ad M H locs) (h : ∀ k, M k ≠ none → ad' k = ad k) : mE G A H0 ad' M H locs :=
  mE_ren hE (fun k => k) (fun k e hk => ⟨hk, h k (by rw [hk]; exact fun h => by cases h)⟩) (fun _ _ _ _ h => h) hE.1.2.2
theorem jU_uu (M : mC) (k : Nat) (e e' : va_E) : mU (mU M k e) k e' = mU M k e' := va_upup M k (some e) (some e')
abbrev mRR (cy : Nat → ClassId) (ad : Nat → Nat) (z n b : Nat) : va_E := .inl (cy 3, z, .inr (.inr (.inr (.inr (fun i => if i < n then some (ad (b + i)) else none)))))
section MRR
variable {p : Program} {l : Launch} {e : Env} {R : Room} {s : State} {m : MethodId} {args : Array Value} {below : List Frame} {meth : Method} {c : Code} {H : Heap} {locs : List Loc} {cells slots : Nat} {Q : State → Prop}
variable {cc : ByteArray} {pc : Nat} {ls : Array Slot} {rest : List Value} {G : va_G} {cy : Nat → ClassId} {A : Nat → Prop} {ad : Nat → Nat} {M : mC} {k : Nat}
theorem mx_ralda (hx : p.tables.exec = Jvm.exec) (hb : c.code = cc) (hN : mN G cy A s) (hE : mE G A s.heap ad M H locs) {n : Nat} {f : Nat → Option Nat} (hC : M k = some (.inl (cy 3, n, .inr (.inr (.inr (.inr f)))))) {i : Int32} {j : Nat} (hi : i = nI j) (hj : j < n) (hn : n < 2 ^ 31) {q : Nat} (hq : f j = some q) (hdg : decode cc pc = .ok (.aaload, 1))
    (kk : W p l e R s m args below meth c H locs cells slots Q (F0 m (pc + 1) ls (.ref q :: rest))) : W p l e R s m args below meth c H locs cells slots Q (F0 m pc ls (.int i :: .ref (ad k) :: rest)) := by
  subst hi
  have hP := mE_P1 hE hC
  have ec : (nI j).toNatClampNeg = j := nI_clamp (Nat.lt_trans hj hn)
  refine W.aald (v := va_rf (f (nI j).toNatClampNeg)) (ty := .array .int) hx hb (hP 0 _ rfl) ((hN.1.2 3 _ rfl).1 n (fun j => va_rf (f j))) rfl (fun q => by cases q) (by show ¬ (nI j < 0 ∨ (arrV _ _ _).slots.size ≤ _); rw [arrV_size]; exact vp_in_nI hj hn) (by show (arrV _ _ _).slots[_]? = _; rw [arrV_read _ _ (by rw [ec]; exact hj)]) rfl rfl hdg ?_
  rw [ec, hq]
  exact kk
theorem mN_rr (hN : mN G cy A s) : ∃ k0 k3 : Class, s.vm.classes[cy 0]? = some k0 ∧ s.vm.classes[cy 3]? = some k3 ∧ k3.kind = .array (cy 0) (.array .int) := by
  obtain ⟨c0, c1, k1, h1, h2, h3, h4, h5⟩ := arrayOverA_spec (args := #[]) (first := s) (o := none) (idx := []) (va_AOA.use (A := #[]) hN.2.2.2)
  have e0 : s.vm.findClass (FieldType.array .int).toString = some (cy 0) := (hN.1.2 0 _ rfl).2
  have e3 : s.vm.findClass ("[" ++ (FieldType.array .int).toString) = some (cy 3) := (hN.1.2 3 _ rfl).2
  have f0 : c0 = cy 0 := Option.some.inj (h1.symm.trans e0)
  have f3 : c1 = cy 3 := Option.some.inj (h5.symm.trans e3)
  subst f0
  subst f3
  obtain ⟨k0, hk0, -⟩ := Vm.findClass_spec h1
  exact ⟨k0, k1, hk0, h3, h4⟩
theorem jAsg (vm : Vm) (f : Nat) (c : ClassId) : vm.assignableAux (f + 1) c c = true := by simp only [Vm.assignableAux, beq_self_eq_true, Bool.true_or]
/-- a row of ints into a row of rows -/
theorem mx_rasta (hx : p.tables.exec = Jvm.exec) (hb : c.code = cc) (hN : mN G cy A s) (hE : mE G A s.heap ad M H locs) {k2 n z : Nat} {g : Nat → Int32} {f : Nat → Option Nat} (hC : M k = some (.inl (cy 3, n, .inr (.inr (.inr (.inr f)))))) (hV : M k2 = some (.inl (cy 0, z, .inl g))) {i : Int32} {j : Nat} (hi : i = nI j) (hj : j < n) (hn : n < 2 ^ 31) (hdg : decode cc pc = .ok (.aastore, 1))
    (kk : ∀ (H : Heap) (locs : List Loc), mE G A s.heap ad (mU M k (.inl (cy 3, n, .inr (.inr (.inr (.inr (va_up f j (some (ad k2)))))))) ) H locs → W p l e R s m args below meth c H locs cells slots Q (F0 m (pc + 1) ls rest)) : W p l e R s m args below meth c H locs cells slots Q (F0 m pc ls (.ref (ad k2) :: .int i :: .ref (ad k) :: rest)) := by
  subst hi
  obtain ⟨q0, hq⟩ := mL_at (ad := ad) hE.1.2.2 hC
  obtain ⟨q1, hq1⟩ := mL_at (ad := ad) hE.1.2.2 hV
  have hP := mE_P hE
  have hD := mE_D hE
  have ec : (nI j).toNatClampNeg = j := nI_clamp (Nat.lt_trans hj hn)
  obtain ⟨k0, k3, g0, g3, g4⟩ := mN_rr hN
  have hv : H[ad k2]? = some (vp_cell (cy 0) (z, .inl g)) := hP q1 _ hq1
  refine W.aast hx hb (hP q0 _ hq) (fun q h => by cases h) (fun h => by cases h) g3 g4 rfl g0 ⟨nI_pos (Nat.lt_trans hj hn), by show _ < (arrV _ _ _).slots.size; rw [arrV_size, ec]; exact hj⟩ hv (fun q h => by cases h) g0 (jAsg s.vm 255 (cy 0)) rfl rfl hdg fun H1 e z9 oq => ?_
  refine kk H1 _ (mE_set hE hC hq (hP.set hD hq ?_ oq) (hE.2.2.2.put z9 oq (hD.2 q0 _ hq)))
  show H1[ad k]? = some (vp_cell _ _)
  rw [e]
  rw [vp_cell_q, vp_cell_q, arrV_store, ec]
  refine congrArg (fun z => some (arrV (cy 3) n z)) (funext fun q => ?_)
  by_cases hq9 : q = j
  · subst hq9
    simp [updV, va_up, va_rf]
  · simp [updV, va_up, hq9]
theorem mx_newr (hx : p.tables.exec = Jvm.exec) (hb : c.code = cc) {own : String} {index : Nat} (hown : s.vm.findClass own = some m.cls) (hclink : (Cond.classLink own index "[I").before args s = true) (hN : mN G cy A s) (hE : mE G A s.heap ad M H locs) (w : Nat) (hw : M w = none) (hw5 : w < 500) {x : Int32} {n : Nat} (hxn : x = nI n) (hn : n < 1000) (hcells : cells + 1 ≤ R.cells) (hslots : slots + n ≤ R.slots) (hdg : decode cc pc = .ok (.anewarray index, 3))
    (kk : ∀ (ad' : Nat → Nat) (H : Heap), (∀ j, j ≠ w → ad' j = ad j) → mE G A s.heap ad' (mU M w (.inl (cy 3, n, .inr (.inr (.inr (.inr (fun _ => none))))))) H locs → W p l e R s m args below meth c H locs (cells + 1) (slots + n) Q (F0 m (pc + 3) ls (.ref (ad' w) :: rest))) : W p l e R s m args below meth c H locs cells slots Q (F0 m pc ls (.int x :: rest)) := by
  subst hxn
  have ec : (nI n).toNatClampNeg = n := nI_clamp (by omega)
  have hP := mE_P hE
  refine W.anewA (t := .int) hx hb hown hclink (va_AOA.use hN.2.2.2) rfl hdg rfl (nI_pos (by omega)) (by rw [ec]; omega) hcells (by rw [ec]; exact hslots) fun cA kA comp f1 f2 f3 f4 => ?_
  have e3 : s.vm.findClass ("[" ++ (FieldType.array .int).toString) = some (cy 3) := (hN.1.2 3 _ rfl).2
  have e9 : cA = cy 3 := Option.some.inj (f1.symm.trans e3)
  subst e9
  rw [ec]
  generalize hH1 : H.push ({ cls := cy 3, slots := Array.replicate n .null, vm := .none } : Cell) = H1
  have z1 : H1.size = H.size + 1 := by rw [← hH1, Array.size_push]
  have e1 : H1[H.size]? = some (arrV (cy 3) n (fun _ => .null)) := by rw [← hH1, Array.getElem?_push_size, ← arrV_new]
  have o1 : ∀ q : Nat, q < H.size → H1[q]? = H[q]? := fun q hq => by rw [← hH1, Array.getElem?_push, if_neg (Nat.ne_of_lt hq)]
  have hk : ∀ (k : Nat) (x : Nat × va_E), (mL ad M)[k]? = some x → H1[x.1]? = H[x.1]? := fun k x hx => o1 x.1 ((hP k x hx).lt)
  have hS := hE.2.2.2
  have h3 := kk (va_up ad w H.size) H1 (fun j hj => if_neg hj) (mE_new hE hw hw5 ((hP.kept hk).app (fun k x hx => by
    have hz : k < 1 := (List.getElem?_eq_some_iff.mp hx).1
    rw [show k = 0 by omega] at hx
    cases hx
    show H1[H.size]? = some (vp_cell _ _)
    rw [vp_cell_q]
    exact e1)) ((mE_D hE).push hP rfl (hE.2.2.1 _ hS.1)) ⟨Nat.le_trans hS.1 (by omega), fun x h1 h2 => (o1 x (Nat.lt_of_lt_of_le h1 hS.1)).trans (hS.2.1 x h1 h2), hS.2.2⟩)
  rw [show va_up ad w H.size w = H.size from if_pos rfl] at h3
  exact h3
/-- new int[n][3]: the rows of rows, and each of its rows, by names -/
def jAd (ad : Nat → Nat) (w N q : Nat) (r : Nat → Nat) : Nat → Nat := fun j => if j = w then q else if w < j ∧ j < w + 1 + N then r (j - (w + 1)) else ad j
def jMm (cy : Nat → ClassId) (ad : Nat → Nat) (M : mC) (w N : Nat) : mC := fun j => if j = w then some (mRR cy ad N N (w + 1)) else if w < j ∧ j < w + 1 + N then some (.inl (cy 0, 3, .inl (fun _ => 0))) else M j
theorem mx_mna (hx : p.tables.exec = Jvm.exec) (hb : c.code = cc) {own : String} {index : Nat} (hown : s.vm.findClass own = some m.cls) (hclink : (Cond.classLink own index "[[I").before args s = true) (harr : (Cond.arrayClass .int).before args s = true) (hN : mN G cy A s) (hE : mE G A s.heap ad M H locs) (w N : Nat) (hw : ∀ j, w ≤ j → j < w + 1 + N → M j = none) (hw5 : w + 1 + N ≤ 500) {x y : Int32} (hxn : x = nI N) (hy : y = nI 3) (hcells : cells + (1 + N) ≤ R.cells) (hslots : slots + (N + N * 3) ≤ R.slots) (hdg : decode cc pc = .ok (.multianewarray index 2, 4))
    (kk : ∀ (ad' : Nat → Nat) (H : Heap), (∀ j, j < w ∨ w + 1 + N ≤ j → ad' j = ad j) → mE G A s.heap ad' (jMm cy ad' M w N) H locs → W p l e R s m args below meth c H locs (cells + 1 + N) (slots + N + N * 3) Q (F0 m (pc + 4) ls (.ref (ad' w) :: rest))) : W p l e R s m args below meth c H locs cells slots Q (F0 m pc ls (.int y :: .int x :: rest)) := by
  subst hxn
  subst hy
  have e0 : s.vm.findClass (FieldType.array .int).toString = some (cy 0) := (hN.1.2 0 _ rfl).2
  have e3 : s.vm.findClass ("[" ++ (FieldType.array .int).toString) = some (cy 3) := (hN.1.2 3 _ rfl).2
  have hP0 : va_P G vwCl (mL ad M ++ va_pl [] (fun _ => .inr (0, []))) H := by rw [show va_pl [] (fun _ => (.inr (0, []) : va_E)) = [] from rfl, List.append_nil]; exact mE_P hE
  have hD0 : va_D A (mL ad M ++ va_pl [] (fun _ => .inr (0, []))) := by rw [show va_pl [] (fun _ => (.inr (0, []) : va_E)) = [] from rfl, List.append_nil]; exact mE_D hE
  refine va_mna (ty := .int) (cy := cy 0) (N' := N) (K' := 3) (z := (3, .inl (fun _ => 0))) hx hb hown hclink hN.2.2.2 harr e0 hN.1 hP0 hD0 hE.2.2.2 hE.2.2.1 (nI_pos (by omega)) (by decide) (nI_clamp (by omega)) (by decide) (by omega) (by decide) (by decide) rfl rfl hcells hslots (fun _ => rfl) hdg (fun q r cA H1 hri _ hK2 hP hD hS => ?_)
  have e9 : cA = cy 3 := by
    have h1 := (hK2.2 4 (cA, .array .int) rfl).2
    exact Option.some.inj ((show s.vm.findClass ("[" ++ (FieldType.array .int).toString) = some cA from h1).symm.trans e3)
  subst e9
  have hlen : (va_pl ([] ++ (List.range N).map r) (vr_up (fun _ => (.inr (0, []) : va_E)) ((List.range N).map r) (.inl (cy 0, 3, .inl (fun _ => 0))))).length = N := by
    unfold va_pl
    rw [List.length_map, List.nil_append, List.length_map, List.length_range]
  have hrow : ∀ i, i < N → (va_pl ([] ++ (List.range N).map r) (vr_up (fun _ => (.inr (0, []) : va_E)) ((List.range N).map r) (.inl (cy 0, 3, .inl (fun _ => 0)))))[i]? = some (r i, .inl (cy 0, 3, .inl (fun _ => 0))) := fun i hi => by
    unfold va_pl
    rw [List.nil_append, List.getElem?_map, List.getElem?_map, List.getElem?_range hi]
    show some (r i, vr_up _ _ _ (r i)) = _
    rw [vr_up_in (List.mem_map.mpr ⟨i, List.mem_range.mpr hi, rfl⟩)]
  generalize va_pl ([] ++ (List.range N).map r) (vr_up (fun _ => (.inr (0, []) : va_E)) ((List.range N).map r) (.inl (cy 0, 3, .inl (fun _ => 0)))) = rows at hP hD hlen hrow
  have hq0 : jAd ad w N q r w = q := if_pos rfl
  have hqr : ∀ i, i < N → jAd ad w N q r (w + 1 + i) = r i := fun i hi => by
    show (if w + 1 + i = w then q else if w < w + 1 + i ∧ w + 1 + i < w + 1 + N then r (w + 1 + i - (w + 1)) else ad (w + 1 + i)) = r i
    rw [if_neg (by omega), if_pos (by omega), Nat.add_sub_cancel_left]
  have hqo : ∀ j, j < w ∨ w + 1 + N ≤ j → jAd ad w N q r j = ad j := fun j hj => by
    show (if j = w then q else if w < j ∧ j < w + 1 + N then r (j - (w + 1)) else ad j) = ad j
    rw [if_neg (by omega), if_neg (by omega)]
  have eo : (fun i => if i < N then some (jAd ad w N q r (w + 1 + i)) else none) = (fun i => if i < N then some (r i) else none) := by
    funext i
    by_cases hi : i < N
    · rw [if_pos hi, if_pos hi, hqr i hi]
    · rw [if_neg hi, if_neg hi]
  have m0 : jMm cy (jAd ad w N q r) M w N w = some (.inl (cy 3, N, .inr (.inr (.inr (.inr (fun i => if i < N then some (r i) else none)))))) := by
    show (if w = w then _ else _) = _
    rw [if_pos rfl, mRR, eo]
  have mr : ∀ i, i < N → jMm cy (jAd ad w N q r) M w N (w + 1 + i) = some (.inl (cy 0, 3, .inl (fun _ => 0))) := fun i hi => by
    show (if w + 1 + i = w then _ else if w < w + 1 + i ∧ w + 1 + i < w + 1 + N then _ else _) = _
    rw [if_neg (by omega), if_pos (by omega)]
  have mo : ∀ j, j < w ∨ w + 1 + N ≤ j → jMm cy (jAd ad w N q r) M w N j = M j := fun j hj => by
    show (if j = w then _ else if w < j ∧ j < w + 1 + N then _ else M j) = M j
    rw [if_neg (by omega), if_neg (by omega)]
  -- each name has a place in the list
  have hpl : ∀ j e, jMm cy (jAd ad w N q r) M w N j = some e → ∃ i, (((mL ad M ++ [(q, .inl (cy 3, N, .inr (.inr (.inr (.inr (fun i => if i < N then some (r i) else none))))))]) ++ rows)[i]? = some (jAd ad w N q r j, e)) ∧ ((j < w ∨ w + 1 + N ≤ j) → i < (mL ad M).length ∧ (mL ad M)[i]? = some (ad j, e)) ∧ (j = w → i = (mL ad M).length) ∧ ∀ z, z < N → j = w + 1 + z → i = (mL ad M).length + 1 + z := by
    intro j e hj
    rcases (show j = w ∨ (∃ z, z < N ∧ j = w + 1 + z) ∨ (j < w ∨ w + 1 + N ≤ j) by
      by_cases h1 : j = w
      · exact Or.inl h1
      · by_cases h2 : w < j ∧ j < w + 1 + N
        · exact Or.inr (Or.inl ⟨j - (w + 1), by omega, by omega⟩)
        · exact Or.inr (Or.inr (by omega))) with rfl | ⟨z, hz, rfl⟩ | ho
    · rw [m0] at hj
      cases hj
      refine ⟨(mL ad M).length, ?_, fun h => by omega, fun _ => rfl, fun z _ h => by omega⟩
      rw [List.getElem?_append_left (by rw [List.length_append]; exact Nat.lt_succ_self _), List.getElem?_append_right (Nat.le_refl _), Nat.sub_self, hq0]
      rfl
    · rw [mr z hz] at hj
      cases hj
      refine ⟨(mL ad M).length + 1 + z, ?_, fun h => by omega, fun h => by omega, fun z' _ h => by omega⟩
      have el : (mL ad M ++ [(q, (.inl (cy 3, N, .inr (.inr (.inr (.inr (fun i => if i < N then some (r i) else none))))) : va_E))]).length = (mL ad M).length + 1 := by rw [List.length_append]; rfl
      rw [List.getElem?_append_right (by rw [el]; omega), el, Nat.add_sub_cancel_left, hrow z hz, hqr z hz]
    · rw [mo j ho] at hj
      obtain ⟨i, hi⟩ := mL_at (ad := ad) hE.1.2.2 hj
      have hil := (List.getElem?_eq_some_iff.mp hi).1
      refine ⟨i, ?_, fun _ => ⟨hil, hi⟩, fun h => by omega, fun z _ h => by omega⟩
      rw [List.getElem?_append_left (by rw [List.length_append]; exact Nat.lt_of_lt_of_le hil (Nat.le_add_right _ _)), List.getElem?_append_left hil, hqo j ho]
      exact hi
  have hsome : ∀ j, jMm cy (jAd ad w N q r) M w N j ≠ none → ∃ e, jMm cy (jAd ad w N q r) M w N j = some e := fun j hj => by
    cases hM : jMm cy (jAd ad w N q r) M w N j with
    | none => exact absurd hM hj
    | some e => exact ⟨e, rfl⟩
  have hE' : mE G A s.heap (jAd ad w N q r) (jMm cy (jAd ad w N q r) M w N) H1 locs := by
    refine ⟨⟨fun j e hj => ?_, fun a b ha hb hab => ?_, fun j hj => ?_⟩, fun j hj => ?_, hE.2.2.1, hS⟩
    · obtain ⟨i, h1, -⟩ := hpl j e hj
      exact hP i _ h1
    · obtain ⟨ea, ga⟩ := hsome a ha
      obtain ⟨eb, gb⟩ := hsome b hb
      obtain ⟨i, a1, a2, a3, a4⟩ := hpl a ea ga
      obtain ⟨j, b1, b2, b3, b4⟩ := hpl b eb gb
      have hij := hD.1 i j _ _ a1 b1 hab
      subst hij
      rcases (show a = w ∨ (∃ z, z < N ∧ a = w + 1 + z) ∨ (a < w ∨ w + 1 + N ≤ a) by
        by_cases h1 : a = w
        · exact Or.inl h1
        · by_cases h2 : w < a ∧ a < w + 1 + N
          · exact Or.inr (Or.inl ⟨a - (w + 1), by omega, by omega⟩)
          · exact Or.inr (Or.inr (by omega))) with ka | ⟨za, kz, ka⟩ | ka <;> rcases (show b = w ∨ (∃ z, z < N ∧ b = w + 1 + z) ∨ (b < w ∨ w + 1 + N ≤ b) by
        by_cases h1 : b = w
        · exact Or.inl h1
        · by_cases h2 : w < b ∧ b < w + 1 + N
          · exact Or.inr (Or.inl ⟨b - (w + 1), by omega, by omega⟩)
          · exact Or.inr (Or.inr (by omega))) with kb | ⟨zb, kz2, kb⟩ | kb
      · omega
      · have := a3 ka; have := b4 zb kz2 kb; omega
      · have := a3 ka; have := (b2 kb).1; omega
      · have := a4 za kz ka; have := b3 kb; omega
      · have := a4 za kz ka; have := b4 zb kz2 kb; omega
      · have := a4 za kz ka; have := (b2 kb).1; omega
      · have := (a2 ka).1; have := b3 kb; omega
      · have := (a2 ka).1; have := b4 zb kz2 kb; omega
      · have h1 := (a2 ka).2
        have h2 := (b2 kb).2
        rw [h1] at h2
        have h3 : ad a = ad b := congrArg Prod.fst (Option.some.inj h2)
        rw [mo a ka] at ga
        rw [mo b kb] at gb
        exact hE.1.2.1 a b (by rw [ga]; exact fun h => by cases h) (by rw [gb]; exact fun h => by cases h) h3
    · rw [mo j (by omega)]
      exact hE.1.2.2 j hj
    · obtain ⟨e, he⟩ := hsome j hj
      obtain ⟨i, h1, -⟩ := hpl j e he
      exact hD.2 i _ h1
  have h3 := kk (jAd ad w N q r) H1 hqo hE'
  rw [hq0] at h3
  exact h3
end MRR
