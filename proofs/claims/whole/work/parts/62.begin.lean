theorem st_arr {s : State} {args : Array Value} (h : (Cond.arrayClass .int).before args s = true) : ∃ cA, ArrOfT s cA .int ∧ va_RA s cA .int := by
  obtain ⟨c, k, comp, h1, h2, h3⟩ := Cond.arrayClass_spec (first := s) (o := none) (idx := []) h
  exact ⟨c, fun n z => ⟨fun k h => (by cases h), k, h2, comp, h3⟩, h1⟩
theorem st_arl {s : State} {args : Array Value} (h : (Cond.arrayClass .long).before args s = true) : ∃ cA, ArrOfT s cA .long ∧ va_RA s cA .long := by
  obtain ⟨c, k, comp, h1, h2, h3⟩ := Cond.arrayClass_spec (first := s) (o := none) (idx := []) h
  exact ⟨c, fun n z => ⟨fun k h => (by cases h), k, h2, comp, h3⟩, h1⟩
theorem st_aro {s : State} {args : Array Value} {C : String} (h : (Cond.arrayOver (.object C)).before args s = true) : ∃ cA, ArrOfT s cA (.object C) ∧ va_RA s cA (.object C) := by
  obtain ⟨comp, c, k, h1, h2, h3, h4, h5⟩ := Cond.arrayOver_spec (first := s) (o := none) (idx := []) h
  exact ⟨c, fun n z => ⟨fun k h => (by cases h), k, h3, comp, h4⟩, k, comp, h3, h4, h1, h5⟩
set_option maxRecDepth 20000 in
theorem mNw_in : ∀ w ∈ mNw, w ∈ lw_tbl := by decide +kernel
set_option maxRecDepth 20000 in
theorem mSt_in : ∀ x ∈ mSt, Cond.stringRef RX2 x.1 x.2 ∈ lw_tbl := by decide +kernel
set_option maxRecDepth 20000 in
theorem mSt_ex : ∀ x ∈ mSt, Cond.exactly (.string RX2 x.1) "java/lang/String" ∈ flatC (Jvm.Cond.and given_1 narrow_1) := by decide +kernel
set_option maxRecDepth 20000 in
theorem mNc_in : ∀ x ∈ mNc, Cond.not (.castable x.1 x.2) ∈ flatC (Jvm.Cond.and given_1 narrow_1) := by decide +kernel
set_option maxRecDepth 20000 in
theorem st_zq1 : Cond.isRef (.static Bundle.tN "UNASSIGNED_STACK" Bundle.steD) ∈ flatC (Jvm.Cond.and given_1 narrow_1) := by decide +kernel
set_option maxRecDepth 20000 in
theorem st_zq2 : Cond.isRef (.static Bundle.tN "SUPPRESSED_SENTINEL" Bundle.listD) ∈ flatC (Jvm.Cond.and given_1 narrow_1) := by decide +kernel
set_option maxHeartbeats 4000000 in
set_option maxRecDepth 20000 in
/-- what the tables and the statics say, at the entry -/
theorem st_mN {s : State} {args : Array Value} (hts : ∀ w ∈ lw_tbl, w.before args s = true) (hs : ∀ c ∈ flatC (Jvm.Cond.and given_1 narrow_1), c.before args s = true) : ∃ (G : va_G) (cy : Nat → ClassId), mN G cy (lA s) s := by
  obtain ⟨c0, i0, k0⟩ := u_known (C := RX0) (T := TX0) (N := 3) (n := 3) hts inX0 (hts (.instantiable RX0 3) (by decide +kernel))
  obtain ⟨c1, i1, k1⟩ := u_known (C := RX1) (T := TX1) (N := 3) (n := 3) hts inX1 (hts (.instantiable RX1 3) (by decide +kernel))
  obtain ⟨c2, i2, k2⟩ := u_known (C := RX2) (T := TX2) (N := 5) (n := 5) hts inX2 (hts (.instantiable RX2 5) (by decide +kernel))
  obtain ⟨c3, i3, k3⟩ := u_known (C := RX3) (T := TX3) (N := 11) (n := 11) hts inX3 (hts (.instantiable RX3 11) (by decide +kernel))
  obtain ⟨a0, r0⟩ := st_arr (hts (.arrayClass .int) (by decide +kernel))
  obtain ⟨a1, r1⟩ := st_aro (C := "SealedCupboards$Cupboard") (hts (.arrayOver (.object "SealedCupboards$Cupboard")) (by decide +kernel))
  obtain ⟨a2, r2⟩ := st_aro (C := "SealedCupboards$Seal") (hts (.arrayOver (.object "SealedCupboards$Seal")) (by decide +kernel))
  obtain ⟨a3, r3⟩ := st_arl (hts (.arrayClass .long) (by decide +kernel))
  have hA : ∀ a : Nat, a < s.heap.size → ¬ lA s a := fun a h1 h2 => Nat.not_le.mpr h1 h2
  refine ⟨(fun k => if k = 0 then c0 else if k = 1 then c1 else if k = 2 then c2 else c3, fun k => if k = 0 then i0 else if k = 1 then i1 else if k = 2 then i2 else i3), fun k => if k = 0 then a0 else if k = 1 then a1 else if k = 2 then a2 else a3, ⟨?_, ?_⟩, fun w hw => va_Nw.of (mNw_on w hw) (hts w (mNw_in w hw)), ⟨va_AO.of (hts _ (by decide +kernel : Cond.arrayOver (.object "SealedCupboards$Cupboard") ∈ lw_tbl)), va_AO.of (hts _ (by decide +kernel : Cond.arrayOver (.object "SealedCupboards$Seal") ∈ lw_tbl))⟩, fun x hx => ?_, vx_Zqof (hts (.laysStatic Bundle.tN "UNASSIGNED_STACK" Bundle.steD) (by decide +kernel)) (hts (.initialized Bundle.tN) (by decide +kernel)) (hs _ st_zq1) hA, vx_Zqof (hts (.laysStatic Bundle.tN "SUPPRESSED_SENTINEL" Bundle.listD) (by decide +kernel)) (hts (.initialized Bundle.tN) (by decide +kernel)) (hs _ st_zq2) hA, fun x hx => va_Nc.of (hs _ (mNc_in x hx))⟩
  · intro k q hq
    match k, hq with
    | 0, hq => cases hq; exact k0
    | 1, hq => cases hq; exact k1
    | 2, hq => cases hq; exact k2
    | 3, hq => cases hq; exact k3
    | k + 4, hq => simp [vwCl] at hq
  · intro k q hq
    match k, hq with
    | 0, hq => cases hq; exact r0
    | 1, hq => cases hq; exact r1
    | 2, hq => cases hq; exact r2
    | 3, hq => cases hq; exact r3
    | k + 4, hq => simp [mT] at hq
  · obtain ⟨a, _, _, _, ha, -⟩ := Cond.exactly_spec (first := s) (o := none) (idx := []) (hs _ (mSt_ex x hx))
    exact ⟨a, vk_R.of (hts _ (mSt_in x hx)) ha⟩
