/-! ===== compare's number: places looked at, and drawers ===== -/
theorem jCmp_eq (f g : Nat → Int32) : ∀ h q, 16 ≤ q * 2 ^ h → (q + 1) * 2 ^ h ≤ 32 → jCmp f g h q = 65536 * mCl f g h q + mCm f g h q ∧ (∃ y, mCm f g h q = 2 ^ (q * 2 ^ h - 16) * y) ∧ mCm f g h q < 2 ^ ((q + 1) * 2 ^ h - 16) := by
  intro h
  induction h with
  | zero =>
    intro q h1 h2
    rw [Nat.pow_zero, Nat.mul_one] at h1 h2 ⊢
    rw [Nat.mul_one]
    have hp : 2 ^ (q + 1 - 16) = 2 * 2 ^ (q - 16) := by rw [show q + 1 - 16 = q - 16 + 1 by omega, Nat.pow_succ, Nat.mul_comm]
    have h0 : 0 < 2 ^ (q - 16) := Nat.pow_pos (by decide)
    by_cases e : f q = g q
    · rw [show jCmp f g 0 q = 65536 from if_pos e, show mCl f g 0 q = 1 from rfl, show mCm f g 0 q = 0 from if_pos e]
      exact ⟨rfl, ⟨0, rfl⟩, by omega⟩
    · rw [show jCmp f g 0 q = 65536 + 1 * 2 ^ (q - 16) from if_neg e, show mCl f g 0 q = 1 from rfl, show mCm f g 0 q = 1 * 2 ^ (q - 16) from if_neg e, Nat.one_mul]
      exact ⟨rfl, ⟨1, (Nat.mul_one _).symm⟩, by omega⟩
  | succ h ih =>
    intro q h1 h2
    have e : 2 ^ (h + 1) = 2 * 2 ^ h := by rw [Nat.pow_succ, Nat.mul_comm]
    rw [e] at h1 h2 ⊢
    have hp : 0 < 2 ^ h := Nat.pow_pos (by decide)
    have a1 : 2 * q * 2 ^ h = q * (2 * 2 ^ h) := by rw [Nat.mul_comm 2 q, Nat.mul_assoc]
    have a2 : (2 * q + 1 + 1) * 2 ^ h = (q + 1) * (2 * 2 ^ h) := by rw [show 2 * q + 1 + 1 = (q + 1) * 2 by omega, Nat.mul_assoc]
    have a3 : (2 * q + 1) * 2 ^ h = 2 * q * 2 ^ h + 2 ^ h := by rw [Nat.add_mul, Nat.one_mul]
    have a4 : (2 * q + 1 + 1) * 2 ^ h = (2 * q + 1) * 2 ^ h + 2 ^ h := by rw [Nat.add_mul (2 * q + 1) 1, Nat.one_mul]
    by_cases eq : f q = g q
    · rw [show jCmp f g (h + 1) q = 65536 from if_pos eq, show mCl f g (h + 1) q = 1 from if_pos eq, show mCm f g (h + 1) q = 0 from if_pos eq]
      exact ⟨rfl, ⟨0, rfl⟩, Nat.pow_pos (by decide)⟩
    · obtain ⟨b1, ⟨y1, b2⟩, b3⟩ := ih (2 * q) (by omega) (by omega)
      obtain ⟨c1, ⟨y2, c2⟩, c3⟩ := ih (2 * q + 1) (by omega) (by omega)
      rw [show jCmp f g (h + 1) q = 65536 + jCmp f g h (2 * q) + jCmp f g h (2 * q + 1) from if_neg eq, show mCl f g (h + 1) q = 1 + mCl f g h (2 * q) + mCl f g h (2 * q + 1) from if_neg eq, show mCm f g (h + 1) q = mCm f g h (2 * q) ||| mCm f g h (2 * q + 1) from if_neg eq]
      have hor : mCm f g h (2 * q) ||| mCm f g h (2 * q + 1) = mCm f g h (2 * q + 1) + mCm f g h (2 * q) := by
        rw [Nat.or_comm, c2]
        exact (Nat.two_pow_add_eq_or_of_lt b3 y2).symm
      refine ⟨by rw [hor]; omega, ⟨2 ^ (2 ^ h) * y2 + y1, ?_⟩, ?_⟩
      · rw [hor, c2, b2, Nat.mul_add, ← Nat.mul_assoc, ← Nat.pow_add, show q * (2 * 2 ^ h) - 16 + 2 ^ h = (2 * q + 1) * 2 ^ h - 16 by omega, a1]
      · refine Nat.or_lt_two_pow ?_ ?_
        · exact Nat.lt_of_lt_of_le b3 (Nat.pow_le_pow_right (by decide) (by omega))
        · rw [← a2]; exact c3
theorem jCmp_mod (f g : Nat → Int32) : jCmp f g 4 1 % 65536 = mCm f g 4 1 := by
  obtain ⟨h1, -, h3⟩ := jCmp_eq f g 4 1 (by decide) (by decide)
  have h3 : mCm f g 4 1 < 65536 := h3
  omega
theorem jCl_odd (f g : Nat → Int32) : ∀ h q, mCl f g h q % 2 = 1 ∧ mCl f g h q + 1 ≤ 2 ^ (h + 1) := by
  intro h
  induction h with
  | zero => intro q; exact ⟨rfl, by show 1 + 1 ≤ 2 ^ 1; decide⟩
  | succ h ih =>
    intro q
    obtain ⟨a1, a2⟩ := ih (2 * q)
    obtain ⟨b1, b2⟩ := ih (2 * q + 1)
    have e : 2 ^ (h + 1 + 1) = 2 * 2 ^ (h + 1) := by rw [Nat.pow_succ 2 (h + 1), Nat.mul_comm]
    simp only [mCl]
    split <;> omega
theorem jCm_sym (f g : Nat → Int32) : ∀ h q, mCm f g h q = mCm g f h q ∧ mCl f g h q = mCl g f h q := by
  intro h
  induction h with
  | zero =>
    intro q
    refine ⟨?_, rfl⟩
    show (if f q = g q then 0 else 1 * 2 ^ (q - 16)) = (if g q = f q then 0 else 1 * 2 ^ (q - 16))
    by_cases e : f q = g q
    · rw [if_pos e, if_pos e.symm]
    · rw [if_neg e, if_neg (fun h => e h.symm)]
  | succ h ih =>
    intro q
    simp only [mCm, mCl]
    rw [(ih (2 * q)).1, (ih (2 * q + 1)).1, (ih (2 * q)).2, (ih (2 * q + 1)).2]
    by_cases e : f q = g q
    · rw [if_pos e, if_pos e.symm, if_pos e, if_pos e.symm]; exact ⟨rfl, rfl⟩
    · rw [if_neg e, if_neg (fun h => e h.symm), if_neg e, if_neg (fun h => e h.symm)]; exact ⟨rfl, rfl⟩
/-- nothing differs just if the roots are the same -/
theorem jCm_0 {f g F G : Nat → Int32} (hf : mCon f F) (hg : mCon g G) : ∀ h q, 1 ≤ q → q * 2 ^ h < 32 → mCm f g h q = 0 → f q = g q := by
  intro h
  induction h with
  | zero =>
    intro q h1 h2 h3
    by_cases e : f q = g q
    · exact e
    · exfalso
      have h4 : mCm f g 0 q = 1 * 2 ^ (q - 16) := if_neg e
      have h0 : 0 < 2 ^ (q - 16) := Nat.pow_pos (by decide)
      omega
  | succ h ih =>
    intro q h1 h2 h3
    by_cases e : f q = g q
    · exact e
    · have h4 : mCm f g (h + 1) q = mCm f g h (2 * q) ||| mCm f g h (2 * q + 1) := if_neg e
      rw [h4, Nat.or_eq_zero_iff] at h3
      have e2 : 2 ^ (h + 1) = 2 * 2 ^ h := by rw [Nat.pow_succ, Nat.mul_comm]
      rw [e2] at h2
      have hp : 0 < 2 ^ h := Nat.pow_pos (by decide)
      have a1 : 2 * q * 2 ^ h = q * (2 * 2 ^ h) := by rw [Nat.mul_comm 2 q, Nat.mul_assoc]
      have hq : q < 16 := by
        have : q * 2 ≤ q * (2 * 2 ^ h) := Nat.mul_le_mul_left q (by omega)
        omega
      have a3 : (2 * q + 1) * 2 ^ h = 2 * q * 2 ^ h + 2 ^ h := by rw [Nat.add_mul, Nat.one_mul]
      have a5 : 2 * q * 2 ^ h + 2 ^ h < 32 := by
        have : ∃ z, z * 2 ^ h = 32 ∨ h ≥ 5 := by
          rcases (show h = 0 ∨ h = 1 ∨ h = 2 ∨ h = 3 ∨ h = 4 ∨ 5 ≤ h by omega) with rfl | rfl | rfl | rfl | rfl | h9
          · exact ⟨32, Or.inl rfl⟩
          · exact ⟨16, Or.inl rfl⟩
          · exact ⟨8, Or.inl rfl⟩
          · exact ⟨4, Or.inl rfl⟩
          · exact ⟨2, Or.inl rfl⟩
          · exact ⟨0, Or.inr h9⟩
        rcases (show h = 0 ∨ h = 1 ∨ h = 2 ∨ h = 3 ∨ 4 ≤ h by omega) with rfl | rfl | rfl | rfl | h9
        · omega
        · omega
        · omega
        · omega
        · exfalso
          have : 2 ^ 4 ≤ 2 ^ h := Nat.pow_le_pow_right (by decide) h9
          have : q * (2 * 2 ^ 4) ≤ q * (2 * 2 ^ h) := Nat.mul_le_mul_left q (by omega)
          omega
      rw [hf.2 q h1 hq, hg.2 q h1 hq, ih (2 * q) (by omega) (by omega) h3.1, ih (2 * q + 1) (by omega) (by omega) h3.2]
theorem jCm_iff {f g F G : Nat → Int32} (hf : mCon f F) (hg : mCon g G) : mCm f g 4 1 = 0 ↔ f 1 = g 1 := ⟨jCm_0 hf hg 4 1 (by decide) (by decide), fun h => if_pos h⟩
/-- whether all sums on the first t places of the way up differ -/
def jDo (f g : Nat → Int32) (d : Nat) : Nat → Bool
  | 0 => true
  | t + 1 => jDo f g d t && !decide (f ((16 + d) / 2 ^ t) = g ((16 + d) / 2 ^ t))
theorem jDo_iff (f g : Nat → Int32) (d : Nat) : ∀ t, jDo f g d t = true ↔ ∀ j, j < t → ¬ f ((16 + d) / 2 ^ j) = g ((16 + d) / 2 ^ j) := by
  intro t
  induction t with
  | zero => exact ⟨fun _ j hj => absurd hj (Nat.not_lt_zero j), fun _ => rfl⟩
  | succ t ih =>
    simp only [jDo, Bool.and_eq_true, Bool.not_eq_true', decide_eq_false_iff_not]
    rw [ih]
    constructor
    · rintro ⟨a, b⟩ j hj
      by_cases e : j = t
      · subst e; exact b
      · exact a j (by omega)
    · intro a
      exact ⟨fun j hj => a j (by omega), a t (by omega)⟩
theorem jDo_bit (f g : Nat → Int32) {d : Nat} (hd : d < 16) : jDo f g d 5 = true ↔ mCm f g 4 1 / 2 ^ d % 2 = 1 := by
  have h := mt_cm (f := f) (g := g) 4 1 d hd (by decide) (by decide)
  rw [Nat.testBit_eq_decide_div_mod_eq, decide_eq_true_iff] at h
  rw [h, jDo_iff]
  have e : (16 + d) / 2 ^ 4 = 1 := by omega
  exact ⟨fun a => ⟨e, fun j hj => a j (by omega)⟩, fun a j hj => a.2 j (by omega)⟩
/-! ===== sums lie in their range; a proof comes to the root ===== -/
theorem jMod {a : Nat} (ha : a < 2 ^ 31) : mMod (nI a) = nI (a % 997) := pk_rem (by omega) (by omega) (by omega)
theorem jRange {g f : Nat → Int32} (h : mCon g f) (hf : ∀ d, d < 16 → ∃ t, t < 10000 ∧ f d = nI t) {q : Nat} (h1 : 1 ≤ q) (h2 : q < 32) : ∃ r, r < 997 ∧ g q = nI r := by
  have a0 : ∀ q, 16 ≤ q → q < 32 → ∃ r, r < 997 ∧ g q = nI r := fun q a b => by
    obtain ⟨d, rfl⟩ : ∃ d, q = 16 + d := ⟨q - 16, by omega⟩
    obtain ⟨t, ht, e⟩ := hf d (by omega)
    rw [h.1 d (by omega), e]
    unfold mLeaf
    rw [nI_add, pk_mul, pk_mul, nI_add, jMod (by omega)]
    exact ⟨_, Nat.mod_lt _ (by decide), rfl⟩
  have st : ∀ q, 1 ≤ q → q < 16 → (∃ r, r < 997 ∧ g (2 * q) = nI r) → (∃ r, r < 997 ∧ g (2 * q + 1) = nI r) → ∃ r, r < 997 ∧ g q = nI r := fun q a b c e => by
    obtain ⟨r1, k1, e1⟩ := c
    obtain ⟨r2, k2, e2⟩ := e
    rw [h.2 q a b, e1, e2]
    unfold mJoin
    rw [pk_mul, pk_mul, nI_add, nI_add, jMod (by omega)]
    exact ⟨_, Nat.mod_lt _ (by decide), rfl⟩
  have a1 : ∀ q, 8 ≤ q → q < 32 → ∃ r, r < 997 ∧ g q = nI r := fun q a b => by
    rcases Nat.lt_or_ge q 16 with c | c
    · exact st q (by omega) c (a0 _ (by omega) (by omega)) (a0 _ (by omega) (by omega))
    · exact a0 q c b
  have a2 : ∀ q, 4 ≤ q → q < 32 → ∃ r, r < 997 ∧ g q = nI r := fun q a b => by
    rcases Nat.lt_or_ge q 8 with c | c
    · exact st q (by omega) (by omega) (a1 _ (by omega) (by omega)) (a1 _ (by omega) (by omega))
    · exact a1 q c b
  have a3 : ∀ q, 2 ≤ q → q < 32 → ∃ r, r < 997 ∧ g q = nI r := fun q a b => by
    rcases Nat.lt_or_ge q 4 with c | c
    · exact st q (by omega) (by omega) (a2 _ (by omega) (by omega)) (a2 _ (by omega) (by omega))
    · exact a2 q c b
  rcases Nat.lt_or_ge q 2 with c | c
  · exact st q h1 (by omega) (a3 _ (by omega) (by omega)) (a3 _ (by omega) (by omega))
  · exact a3 q c h2
theorem jPrf {g f : Nat → Int32} (h : mCon g f) {d : Nat} (hd : d < 16) : ∀ t, t ≤ 4 → mPrf g d (f d) t = g ((16 + d) / 2 ^ t) := by
  intro t
  induction t with
  | zero =>
    intro _
    rw [Nat.pow_zero, Nat.div_one]
    exact (h.1 d hd).symm
  | succ t ih =>
    intro ht
    show mAbove ((16 + d) / 2 ^ t) (mPrf g d (f d) t) (g (mBes d t)) = g ((16 + d) / 2 ^ (t + 1))
    rw [ih (by omega), Nat.pow_succ, ← Nat.div_div_eq_div_mul]
    have hq : 2 ≤ (16 + d) / 2 ^ t ∧ (16 + d) / 2 ^ t < 32 := by
      have : ∀ d, d < 16 → ∀ t, t < 4 → 2 ≤ (16 + d) / 2 ^ t ∧ (16 + d) / 2 ^ t < 32 := by decide +kernel
      exact this d hd t (by omega)
    have e : mBes d t = if (16 + d) / 2 ^ t % 2 = 0 then (16 + d) / 2 ^ t + 1 else (16 + d) / 2 ^ t - 1 := rfl
    rw [e]
    generalize (16 + d) / 2 ^ t = q at hq ⊢
    rw [h.2 (q / 2) (by omega) (by omega)]
    unfold mAbove
    by_cases hp : q % 2 = 0
    · rw [if_pos hp, if_pos hp, show 2 * (q / 2) = q by omega]
    · rw [if_neg hp, if_neg hp, show 2 * (q / 2) = q - 1 by omega, show q - 1 + 1 = q by omega]
theorem jPrf4 {g f : Nat → Int32} (h : mCon g f) {d : Nat} (hd : d < 16) : mPrf g d (f d) 4 = g 1 := by
  rw [jPrf h hd 4 (by decide), show (16 + d) / 2 ^ 4 = 1 by omega]
theorem jComes {g f : Nat → Int32} (h : mCon g f) {d : Nat} (hd : d < 16) : mComes d (f d) (g (mBes d 0)) (g (mBes d 1)) (g (mBes d 2)) (g (mBes d 3)) = g 1 := by
  rw [← jPrf4 h hd]
  unfold mComes
  simp only [mPrf, Nat.pow_zero, Nat.div_one, Nat.reducePow]
