theorem st_arr {s : State} {args : Array Value} (h : (Cond.arrayClass .int).before args s = true) : ∃ cA, ArrOfT s cA .int ∧ va_RA s cA .int := by
  obtain ⟨c, k, comp, h1, h2, h3⟩ := Cond.arrayClass_spec (first := s) (o := none) (idx := []) h
  exact ⟨c, fun n z => ⟨fun k h => (by cases h), k, h2, comp, h3⟩, h1⟩
theorem st_aro {s : State} {args : Array Value} {C : String} (h : (Cond.arrayOver (.object C)).before args s = true) : ∃ cA, ArrOfT s cA (.object C) ∧ va_RA s cA (.object C) := by
  obtain ⟨comp, c, k, h1, h2, h3, h4, h5⟩ := Cond.arrayOver_spec (first := s) (o := none) (idx := []) h
  exact ⟨c, fun n z => ⟨fun k h => (by cases h), k, h3, comp, h4⟩, k, comp, h3, h4, h1, h5⟩
theorem st_ara {s : State} {args : Array Value} (h : (Cond.arrayOver (.array .int)).before args s = true) : ∃ cA, ArrOfT s cA (.array .int) ∧ va_RA s cA (.array .int) := by
  obtain ⟨c0, c1, k1, h1, h2, h3, h4, h5⟩ := arrayOverA_spec (args := args) (first := s) (o := none) (idx := []) h
  exact ⟨c1, fun n z => ⟨fun k h => (by cases h), k1, h3, c0, h4⟩, h5⟩
set_option maxRecDepth 20000 in
theorem mNw_in : ∀ w ∈ mNw, w ∈ lw_tbl := by decide +kernel
set_option maxHeartbeats 4000000 in
set_option maxRecDepth 20000 in
/-- what the tables and the statics say, at the entry -/
theorem st_mN {s : State} {args : Array Value} {A : Nat → Prop} (hts : ∀ w ∈ lw_tbl, w.before args s = true) : ∃ (G : va_G) (cy : Nat → ClassId), mN G cy A s := by
  obtain ⟨c0, i0, k0⟩ := u_known (C := RX0) (T := TX0) (N := 3) (n := 3) hts inX0 (hts (.instantiable RX0 3) (by decide +kernel))
  obtain ⟨c1, i1, k1⟩ := u_known (C := RX1) (T := TX1) (N := 3) (n := 3) hts inX1 (hts (.instantiable RX1 3) (by decide +kernel))
  obtain ⟨c2, i2, k2⟩ := u_known (C := RX2) (T := TX2) (N := 5) (n := 5) hts inX2 (hts (.instantiable RX2 5) (by decide +kernel))
  obtain ⟨c3, i3, k3⟩ := u_known (C := RX3) (T := TX3) (N := 3) (n := 3) hts inX3 (hts (.instantiable RX3 3) (by decide +kernel))
  obtain ⟨a0, r0⟩ := st_arr (hts (.arrayClass .int) (by decide +kernel))
  obtain ⟨a1, r1⟩ := st_aro (C := "SealedCupboards$Cupboard") (hts (.arrayOver (.object "SealedCupboards$Cupboard")) (by decide +kernel))
  obtain ⟨a2, r2⟩ := st_aro (C := "SealedCupboards$Seal") (hts (.arrayOver (.object "SealedCupboards$Seal")) (by decide +kernel))
  obtain ⟨a3, r3⟩ := st_ara (hts (.arrayOver (.array .int)) (by decide +kernel))
  refine ⟨(fun k => if k = 0 then c0 else if k = 1 then c1 else if k = 2 then c2 else c3, fun k => if k = 0 then i0 else if k = 1 then i1 else if k = 2 then i2 else i3), fun k => if k = 0 then a0 else if k = 1 then a1 else if k = 2 then a2 else a3, ⟨?_, ?_⟩, fun w hw => va_Nw.of (mNw_on w hw) (hts w (mNw_in w hw)), ⟨va_AO.of (hts _ (by decide +kernel : Cond.arrayOver (.object "SealedCupboards$Cupboard") ∈ lw_tbl)), va_AO.of (hts _ (by decide +kernel : Cond.arrayOver (.object "SealedCupboards$Seal") ∈ lw_tbl))⟩, va_AOA.of (hts _ (by decide +kernel : Cond.arrayOver (.array .int) ∈ lw_tbl))⟩
  · intro k q hq
    match k, hq with
    | 0, hq => cases hq; exact k0
    | 1, hq => cases hq; exact k1
    | 2, hq => cases hq; exact k2
    | 3, hq => cases hq; exact k3
    | k + 4, hq => simp [vwCl] at hq
  · intro k q hq
    match k, hq with
    | 0, hq => cases hq; exact r0
    | 1, hq => cases hq; exact r1
    | 2, hq => cases hq; exact r2
    | 3, hq => cases hq; exact r3
    | k + 4, hq => simp [mT] at hq
theorem st_begin {cy : Nat → ClassId} {ad : Nat → Nat} {M : mC} (m0 : M 0 = some (.inr (2, [.ref (ad 1), .ref (ad 2), .ref (ad 3), .int 0, .int 0]))) (m1 : M 1 = some (.inl (cy 1, 6, .inr (.inr (.inr (.inr (fun _ => none))))))) (m2 : M 2 = some (.inl (cy 2, 20, .inr (.inr (.inr (.inr (fun _ => none))))))) (m3 : M 3 = some (mI cy 32 (fun _ => 0))) (mr : ∀ j, 4 ≤ j → M j = none) : M = Sy cy ad 0 0 (fun _ _ => 0) jN0 := by
  have e1 : (fun i => if i < 0 then some (ad (100 + i)) else none) = (fun _ => none : Nat → Option Nat) := funext (fun i => if_neg (Nat.not_lt_zero i))
  have e2 : (fun i => if i < 0 then some (ad (400 + i)) else none) = (fun _ => none : Nat → Option Nat) := funext (fun i => if_neg (Nat.not_lt_zero i))
  funext j
  rcases (show j = 0 ∨ j = 1 ∨ j = 2 ∨ j = 3 ∨ (4 ≤ j ∧ j < 100) ∨ 100 ≤ j by omega) with rfl | rfl | rfl | rfl | hj | hj
  · rw [m0, S_0]; rfl
  · rw [m1, S_1, mO1, e1]
  · rw [m2, S_2, mO2, e2]
  · rw [m3, S_3]
  · rw [mr j hj.1, S_r hj.1 hj.2]
  · rw [mr j (by omega)]
    exact (sy_none (by refine ⟨by omega, ?_⟩; omega)).symm
