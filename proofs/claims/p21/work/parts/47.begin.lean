/-! ===== the law's own room, new ===== -/
abbrev jN0 : mC := fun _ => none
theorem jBegin {cy : Nat → ClassId} {ad ad2 : Nat → Nat} {v : Nat → Nat → Int32} {M2 : mC} (h4 : M2 4 = some (.inr (3, [.ref (ad2 5), .ref (ad2 6), .ref (ad2 7)]))) (h5 : M2 5 = some (.inl (cy 3, 0, .inr (.inr (.inr (.inr (fun _ => none))))))) (h6 : M2 6 = some (.inl (cy 3, 0, .inr (.inr (.inr (.inr (fun _ => none))))))) (h7 : M2 7 = some (mI cy 6 (fun _ => 0))) (hr : ∀ j, j ≠ 4 → j ≠ 5 → j ≠ 6 → j ≠ 7 → M2 j = Sy cy ad 0 0 v jN0 j) (ha : ∀ j, j ≠ 4 → j ≠ 5 → j ≠ 6 → j ≠ 7 → ad2 j = ad j) : M2 = Sy cy ad2 0 0 v (Si cy ad2 0 0 (fun _ _ => 0) jN0) := by
  have e0 : Sy cy ad 0 0 v jN0 = Sy cy ad2 0 0 v jN0 := S_adc (fun j hj => ha j (by omega) (by omega) (by omega) (by omega))
  have er : ∀ b, mRR cy ad2 0 0 b = .inl (cy 3, 0, .inr (.inr (.inr (.inr (fun _ => none))))) := fun b => congrArg (fun f => (.inl (cy 3, 0, .inr (.inr (.inr (.inr f)))) : va_E)) (funext fun i => if_neg (Nat.not_lt_zero i))
  funext j
  by_cases j4 : j = 4
  · subst j4; rw [h4, S_r (by decide) (by decide)]; rfl
  by_cases j5 : j = 5
  · subst j5; rw [h5, S_r (by decide) (by decide), Q_5, er]
  by_cases j6 : j = 6
  · subst j6; rw [h6, S_r (by decide) (by decide), Q_6, er]
  by_cases j7 : j = 7
  · subst j7; rw [h7, S_r (by decide) (by decide), Q_7]
  rw [hr j j4 j5 j6 j7, e0]
  show sy cy ad2 0 0 jN0 j (v j) = sy cy ad2 0 0 (Si cy ad2 0 0 (fun _ _ => 0) jN0) j (v j)
  unfold sy
  rw [show Si cy ad2 0 0 (fun _ _ => 0) jN0 j = jN0 j from Q_r (by unfold jIs; omega)]
theorem jV_begin {v : Nat → Nat → Int32} : jV 0 0 v (fun _ _ => 0) (fun _ => 0) (fun _ => 0) (fun _ => 0) 0 :=
  ⟨by decide, by decide, fun i hi => absurd hi (Nat.not_lt_zero i), fun _ _ _ => rfl, fun j hj => absurd hj (Nat.not_lt_zero j)⟩
