section MTREE
variable {f g : Nat → Int32}
theorem mt_3 (s q : Nat) : (3 * 2 ^ s).testBit q = decide (q = s ∨ q = s + 1) := by
  rw [Nat.testBit_mul_two_pow]
  by_cases h : s ≤ q
  · rw [decide_eq_true h, Bool.true_and]
    obtain ⟨j, rfl⟩ : ∃ j, q = s + j := ⟨q - s, by omega⟩
    rw [Nat.add_sub_cancel_left]
    match j with
    | 0 => rw [decide_eq_true (show s + 0 = s ∨ s + 0 = s + 1 from Or.inl rfl)]; rfl
    | 1 => rw [decide_eq_true (show s + 1 = s ∨ s + 1 = s + 1 from Or.inr rfl)]; rfl
    | j + 2 =>
      rw [decide_eq_false (by omega)]
      exact Nat.testBit_lt_two_pow (Nat.lt_of_lt_of_le (by decide : 3 < 2 ^ 2) (Nat.pow_le_pow_right (by decide) (by omega)))
  · rw [decide_eq_false h, Bool.false_and, decide_eq_false (by omega)]
/-- the bits of what is looked at: each stands behind the one above it -/
theorem mt_look : ∀ t q, (mLook f g t).testBit q = true ↔ (q = 1 ∨ (1 ≤ q / 2 ∧ q / 2 ≤ t ∧ (mLook f g t).testBit (q / 2) = true ∧ ¬ f (q / 2) = g (q / 2))) := by
  intro t
  induction t with
  | zero =>
    intro q
    show (2 : Nat).testBit q = true ↔ _
    have e : (2 : Nat).testBit q = decide (1 = q) := Nat.testBit_two_pow (n := 1)
    rw [e]
    simp only [decide_eq_true_eq]
    omega
  | succ t ih =>
    intro q
    have key : ∀ q, (mLook f g (t + 1)).testBit q = true ↔ ((mLook f g t).testBit q = true ∨ ((mLook f g t).testBit (t + 1) = true ∧ ¬ f (t + 1) = g (t + 1) ∧ (q = 2 * (t + 1) ∨ q = 2 * (t + 1) + 1))) := by
      intro q
      have e : ((mLook f g t).testBit (t + 1) = true) ↔ mLook f g t / 2 ^ (t + 1) % 2 = 1 := by rw [Nat.testBit_eq_decide_div_mod_eq]; simp only [decide_eq_true_eq]
      show (if mLook f g t / 2 ^ (t + 1) % 2 = 1 ∧ ¬ f (t + 1) = g (t + 1) then mLook f g t ||| 3 * 2 ^ (2 * (t + 1)) else mLook f g t).testBit q = true ↔ _
      rw [e]
      split
      · next h =>
        rw [Nat.testBit_or, mt_3, Bool.or_eq_true]
        simp only [decide_eq_true_eq]
        constructor
        · rintro (h1 | h1)
          · exact Or.inl h1
          · exact Or.inr ⟨h.1, h.2, h1⟩
        · rintro (h1 | h1)
          · exact Or.inl h1
          · exact Or.inr h1.2.2
      · next h =>
        constructor
        · exact Or.inl
        · rintro (h1 | h1)
          · exact h1
          · exact absurd ⟨h1.1, h1.2.1⟩ h
    rw [key q, ih q, key (q / 2)]
    constructor
    · rintro ((h | ⟨h1, h2, h3, h4⟩) | ⟨h1, h2, h3⟩)
      · exact Or.inl h
      · exact Or.inr ⟨h1, by omega, Or.inl h3, h4⟩
      · have e : q / 2 = t + 1 := by omega
        rw [e]
        exact Or.inr ⟨by omega, Nat.le_refl _, Or.inl h1, h2⟩
    · rintro (h | ⟨h1, h2, h3, h4⟩)
      · exact Or.inl (Or.inl h)
      · rcases h3 with h3 | ⟨h3, h5, h6⟩
        · by_cases e : q / 2 = t + 1
          · rw [e] at h3 h4
            exact Or.inr ⟨h3, h4, by omega⟩
          · exact Or.inl (Or.inr ⟨h1, by omega, h3, h4⟩)
        · exfalso; omega
/-- all places of 1 to 31 -/
theorem mt_up {q : Nat} (h1 : 2 ≤ q) (h2 : q < 32) : (mLook f g 15).testBit q = true ↔ ((mLook f g 15).testBit (q / 2) = true ∧ ¬ f (q / 2) = g (q / 2)) := by
  rw [mt_look 15 q]
  constructor
  · rintro (h | ⟨-, -, h3, h4⟩)
    · omega
    · exact ⟨h3, h4⟩
  · rintro ⟨h3, h4⟩
    exact Or.inr ⟨by omega, by omega, h3, h4⟩
theorem mt_one : (mLook f g 15).testBit 1 = true := (mt_look 15 1).mpr (Or.inl rfl)
theorem mt_zero : (mLook f g 15).testBit 0 = false := by
  cases h : (mLook f g 15).testBit 0 with
  | false => rfl
  | true =>
    rcases (mt_look 15 0).mp h with h | ⟨h, -⟩ <;> omega
theorem mt_dr (m : Nat) : ∀ t d, (mDr m f g t).testBit d = true ↔ (d < t ∧ m.testBit (16 + d) = true ∧ ¬ f (16 + d) = g (16 + d)) := by
  intro t
  induction t with
  | zero =>
    intro d
    show (0 : Nat).testBit d = true ↔ _
    rw [Nat.zero_testBit]
    constructor
    · intro h; cases h
    · rintro ⟨h, -⟩; omega
  | succ t ih =>
    intro d
    have e : (m.testBit (16 + t) = true) ↔ m / 2 ^ (16 + t) % 2 = 1 := by rw [Nat.testBit_eq_decide_div_mod_eq]; simp only [decide_eq_true_eq]
    show (if m / 2 ^ (16 + t) % 2 = 1 ∧ ¬ f (16 + t) = g (16 + t) then mDr m f g t ||| 1 * 2 ^ t else mDr m f g t).testBit d = true ↔ _
    split
    · next h =>
      rw [Nat.testBit_or, Nat.one_mul, Nat.testBit_two_pow, Bool.or_eq_true, ih d]
      simp only [decide_eq_true_eq]
      constructor
      · rintro (⟨a, b, c⟩ | rfl)
        · exact ⟨by omega, b, c⟩
        · exact ⟨by omega, e.mpr h.1, h.2⟩
      · rintro ⟨a, b, c⟩
        by_cases hd : t = d
        · exact Or.inr hd
        · exact Or.inl ⟨by omega, b, c⟩
    · next h =>
      rw [ih d]
      constructor
      · rintro ⟨a, b, c⟩; exact ⟨by omega, b, c⟩
      · rintro ⟨a, b, c⟩
        refine ⟨?_, b, c⟩
        by_cases hd : t = d
        · subst hd; exact absurd ⟨e.mp b, c⟩ h
        · omega
theorem mt_cm : ∀ h q d, d < 16 → 16 ≤ q * 2 ^ h → (q + 1) * 2 ^ h ≤ 32 → ((mCm f g h q).testBit d = true ↔ ((16 + d) / 2 ^ h = q ∧ ∀ j, j ≤ h → ¬ f ((16 + d) / 2 ^ j) = g ((16 + d) / 2 ^ j))) := by
  intro h
  induction h with
  | zero =>
    intro q d hd h1 h2
    have e : ((16 + d) / 2 ^ 0 = q ∧ ∀ j, j ≤ 0 → ¬ f ((16 + d) / 2 ^ j) = g ((16 + d) / 2 ^ j)) ↔ (16 + d = q ∧ ¬ f q = g q) := by
      constructor
      · rintro ⟨a, b⟩
        have := b 0 (Nat.le_refl _)
        rw [a] at this
        rw [Nat.pow_zero, Nat.div_one] at a
        exact ⟨a, this⟩
      · rintro ⟨a, b⟩
        refine ⟨by rw [Nat.pow_zero, Nat.div_one]; exact a, fun j hj => ?_⟩
        rw [Nat.le_zero.mp hj, Nat.pow_zero, Nat.div_one, a]; exact b
    rw [e]
    show (if f q = g q then 0 else 1 * 2 ^ (q - 16)).testBit d = true ↔ _
    split
    · next h => rw [Nat.zero_testBit]; exact ⟨fun h8 => absurd h8 (by decide), fun h9 => absurd h h9.2⟩
    · next h =>
      rw [Nat.one_mul, Nat.testBit_two_pow]
      simp only [decide_eq_true_eq]
      rw [Nat.pow_zero] at h1 h2
      exact ⟨fun a => ⟨by omega, h⟩, fun a => by omega⟩
  | succ h ih =>
    intro q d hd h1 h2
    have e : 2 ^ (h + 1) = 2 * 2 ^ h := by rw [Nat.pow_succ, Nat.mul_comm]
    rw [e] at h1 h2
    have a1 : 2 * q * 2 ^ h = q * (2 * 2 ^ h) := by rw [Nat.mul_comm 2 q, Nat.mul_assoc]
    have a2 : (2 * q + 1 + 1) * 2 ^ h = (q + 1) * (2 * 2 ^ h) := by rw [show 2 * q + 1 + 1 = (q + 1) * 2 by omega, Nat.mul_assoc]
    have a3 : (2 * q + 1) * 2 ^ h = 2 * q * 2 ^ h + 2 ^ h := by rw [Nat.add_mul, Nat.one_mul]
    have a4 : (2 * q + 1 + 1) * 2 ^ h = (2 * q + 1) * 2 ^ h + 2 ^ h := by rw [Nat.add_mul (2 * q + 1) 1, Nat.one_mul]
    have e2 : (16 + d) / 2 ^ (h + 1) = (16 + d) / 2 ^ h / 2 := by rw [Nat.pow_succ, Nat.div_div_eq_div_mul]
    show (if f q = g q then 0 else mCm f g h (2 * q) ||| mCm f g h (2 * q + 1)).testBit d = true ↔ _
    have hall : (∀ j, j ≤ h + 1 → ¬ f ((16 + d) / 2 ^ j) = g ((16 + d) / 2 ^ j)) ↔ ((∀ j, j ≤ h → ¬ f ((16 + d) / 2 ^ j) = g ((16 + d) / 2 ^ j)) ∧ ¬ f ((16 + d) / 2 ^ (h + 1)) = g ((16 + d) / 2 ^ (h + 1))) := by
      constructor
      · intro a; exact ⟨fun j hj => a j (by omega), a _ (Nat.le_refl _)⟩
      · rintro ⟨a, b⟩ j hj
        by_cases hj2 : j = h + 1
        · subst hj2; exact b
        · exact a j (by omega)
    rw [hall]
    split
    · next hq =>
      rw [Nat.zero_testBit]
      constructor
      · intro h; cases h
      · rintro ⟨a, -, b⟩
        rw [a] at b
        exact absurd hq b
    · next hq =>
      rw [Nat.testBit_or, Bool.or_eq_true, ih (2 * q) d hd (by omega) (by omega), ih (2 * q + 1) d hd (by omega) (by omega), e2]
      constructor
      · rintro (⟨a, b⟩ | ⟨a, b⟩)
        · have e9 : (16 + d) / 2 ^ h / 2 = q := by omega
          exact ⟨e9, b, by rw [e9]; exact hq⟩
        · have e9 : (16 + d) / 2 ^ h / 2 = q := by omega
          exact ⟨e9, b, by rw [e9]; exact hq⟩
      · rintro ⟨a, b, -⟩
        rcases (show (16 + d) / 2 ^ h = 2 * q ∨ (16 + d) / 2 ^ h = 2 * q + 1 by omega) with h9 | h9
        · exact Or.inl ⟨h9, b⟩
        · exact Or.inr ⟨h9, b⟩
theorem mt_eq (h1 : mDr (mLook f g 15) f g 16 < 2 ^ 16) (h2 : mCm f g 4 1 < 2 ^ 16) : mDr (mLook f g 15) f g 16 = mCm f g 4 1 := by
  apply Nat.eq_of_testBit_eq
  intro d
  by_cases hd : d < 16
  · apply Bool.eq_iff_iff.mpr
    rw [mt_dr, mt_cm 4 1 d hd (by decide) (by decide)]
    have u0 := mt_up (f := f) (g := g) (q := 16 + d) (by omega) (by omega)
    have u1 := mt_up (f := f) (g := g) (q := (16 + d) / 2) (by omega) (by omega)
    have u2 := mt_up (f := f) (g := g) (q := (16 + d) / 2 / 2) (by omega) (by omega)
    have u3 := mt_up (f := f) (g := g) (q := (16 + d) / 2 / 2 / 2) (by omega) (by omega)
    have e4 : (16 + d) / 2 / 2 / 2 / 2 = 1 := by omega
    have p0 : (16 + d) / 2 ^ 0 = 16 + d := Nat.div_one _
    have p1 : (16 + d) / 2 ^ 1 = (16 + d) / 2 := by omega
    have p2 : (16 + d) / 2 ^ 2 = (16 + d) / 2 / 2 := by omega
    have p3 : (16 + d) / 2 ^ 3 = (16 + d) / 2 / 2 / 2 := by omega
    have p4 : (16 + d) / 2 ^ 4 = 1 := by omega
    rw [e4] at u3
    rw [u0, u1, u2, u3, p4]
    constructor
    · rintro ⟨-, ⟨⟨⟨⟨-, b3⟩, b2⟩, b1⟩, b0⟩, bf⟩
      refine ⟨rfl, fun j hj => ?_⟩
      rcases (show j = 0 ∨ j = 1 ∨ j = 2 ∨ j = 3 ∨ j = 4 by omega) with rfl | rfl | rfl | rfl | rfl
      · rw [p0]; exact bf
      · rw [p1]; exact b0
      · rw [p2]; exact b1
      · rw [p3]; exact b2
      · rw [p4]; exact b3
    · rintro ⟨-, b⟩
      have c0 := b 0 (by omega)
      have c1 := b 1 (by omega)
      have c2 := b 2 (by omega)
      have c3 := b 3 (by omega)
      have c4 := b 4 (by omega)
      rw [p0] at c0
      rw [p1] at c1
      rw [p2] at c2
      rw [p3] at c3
      rw [p4] at c4
      exact ⟨hd, ⟨⟨⟨⟨mt_one, c4⟩, c3⟩, c2⟩, c1⟩, c0⟩
  · rw [Nat.testBit_lt_two_pow (Nat.lt_of_lt_of_le h1 (Nat.pow_le_pow_right (by decide) (by omega))), Nat.testBit_lt_two_pow (Nat.lt_of_lt_of_le h2 (Nat.pow_le_pow_right (by decide) (by omega)))]
/-- how many places are looked at -/
def mt_b (m q : Nat) : Nat := if m.testBit q = true then 1 else 0
theorem mt_bu {q : Nat} (h1 : 2 ≤ q) (h2 : q < 32) : mt_b (mLook f g 15) q = if f (q / 2) = g (q / 2) then 0 else mt_b (mLook f g 15) (q / 2) := by
  unfold mt_b
  by_cases he : f (q / 2) = g (q / 2)
  · rw [if_pos he, if_neg (fun h => ((mt_up h1 h2).mp h).2 he)]
  · rw [if_neg he]
    by_cases hb : (mLook f g 15).testBit (q / 2) = true
    · rw [if_pos hb, if_pos ((mt_up h1 h2).mpr ⟨hb, he⟩)]
    · rw [if_neg hb, if_neg (fun h => hb ((mt_up h1 h2).mp h).1)]
theorem mt_cl0 {q : Nat} : mt_b (mLook f g 15) q * mCl f g 0 q = mt_b (mLook f g 15) q := Nat.mul_one _
theorem mt_clS {h q : Nat} (h1 : 1 ≤ q) (h2 : q < 16) : mt_b (mLook f g 15) q * mCl f g (h + 1) q = mt_b (mLook f g 15) q + mt_b (mLook f g 15) (2 * q) * mCl f g h (2 * q) + mt_b (mLook f g 15) (2 * q + 1) * mCl f g h (2 * q + 1) := by
  rw [mt_bu (q := 2 * q) (by omega) (by omega), mt_bu (q := 2 * q + 1) (by omega) (by omega), show 2 * q / 2 = q by omega, show (2 * q + 1) / 2 = q by omega]
  show mt_b (mLook f g 15) q * (if f q = g q then 1 else 1 + mCl f g h (2 * q) + mCl f g h (2 * q + 1)) = _
  split
  · rw [Nat.mul_one, Nat.zero_mul, Nat.zero_mul, Nat.add_zero]
  · rw [Nat.mul_add, Nat.mul_add, Nat.mul_one]
theorem mt_cl : mCl f g 4 1 = mt_b (mLook f g 15) 1 + mt_b (mLook f g 15) 2 + mt_b (mLook f g 15) 3 + mt_b (mLook f g 15) 4 + mt_b (mLook f g 15) 5 + mt_b (mLook f g 15) 6 + mt_b (mLook f g 15) 7 + mt_b (mLook f g 15) 8 + mt_b (mLook f g 15) 9 + mt_b (mLook f g 15) 10 + mt_b (mLook f g 15) 11 + mt_b (mLook f g 15) 12 + mt_b (mLook f g 15) 13 + mt_b (mLook f g 15) 14 + mt_b (mLook f g 15) 15 + mt_b (mLook f g 15) 16 + mt_b (mLook f g 15) 17 + mt_b (mLook f g 15) 18 + mt_b (mLook f g 15) 19 + mt_b (mLook f g 15) 20 + mt_b (mLook f g 15) 21 + mt_b (mLook f g 15) 22 + mt_b (mLook f g 15) 23 + mt_b (mLook f g 15) 24 + mt_b (mLook f g 15) 25 + mt_b (mLook f g 15) 26 + mt_b (mLook f g 15) 27 + mt_b (mLook f g 15) 28 + mt_b (mLook f g 15) 29 + mt_b (mLook f g 15) 30 + mt_b (mLook f g 15) 31 := by
  have e1 : mt_b (mLook f g 15) 1 = 1 := if_pos mt_one
  have e : mCl f g 4 1 = mt_b (mLook f g 15) 1 * mCl f g 4 1 := by rw [e1, Nat.one_mul]
  rw [e]
  rw [mt_clS (h := 3) (q := 1) (by decide) (by decide)]
  rw [mt_clS (h := 2) (q := 2 * 1) (by decide) (by decide), mt_clS (h := 2) (q := 2 * 1 + 1) (by decide) (by decide)]
  rw [mt_clS (h := 1) (q := 2 * (2 * 1)) (by decide) (by decide), mt_clS (h := 1) (q := 2 * (2 * 1) + 1) (by decide) (by decide), mt_clS (h := 1) (q := 2 * (2 * 1 + 1)) (by decide) (by decide), mt_clS (h := 1) (q := 2 * (2 * 1 + 1) + 1) (by decide) (by decide)]
  simp only [mt_clS (h := 0) (q := 2 * (2 * (2 * 1))) (by decide) (by decide), mt_clS (h := 0) (q := 2 * (2 * (2 * 1)) + 1) (by decide) (by decide), mt_clS (h := 0) (q := 2 * (2 * (2 * 1) + 1)) (by decide) (by decide), mt_clS (h := 0) (q := 2 * (2 * (2 * 1) + 1) + 1) (by decide) (by decide), mt_clS (h := 0) (q := 2 * (2 * (2 * 1 + 1))) (by decide) (by decide), mt_clS (h := 0) (q := 2 * (2 * (2 * 1 + 1)) + 1) (by decide) (by decide), mt_clS (h := 0) (q := 2 * (2 * (2 * 1 + 1) + 1)) (by decide) (by decide), mt_clS (h := 0) (q := 2 * (2 * (2 * 1 + 1) + 1) + 1) (by decide) (by decide), mt_cl0]
  simp only [Nat.reduceMul, Nat.reduceAdd]
  omega
end MTREE
theorem mp_and8 (x M : Nat) : x &&& M = (x % 256 &&& M % 256) + 256 * (x / 256 &&& M / 256) := by
  have h1 := Nat.and_mod_two_pow (a := x) (b := M) (n := 8)
  have h2 := Nat.and_div_two_pow (a := x) (b := M) (n := 8)
  have e : (2 : Nat) ^ 8 = 256 := by decide
  rw [e] at h1 h2
  rw [← h1, ← h2]
  omega
def mp_u (a : Nat) : Nat := a - (a / 2 &&& 85)
def mp_w (a : Nat) : Nat := (mp_u a &&& 51) + (mp_u a / 4 &&& 51)
def mp_p (a : Nat) : Nat := (mp_w a + mp_w a / 16) % 16
theorem mp_1 : ∀ a, a < 256 → ∀ c, c < 2 → (a / 2 + 128 * c &&& 85 = (a / 2 &&& 85)) ∧ (a / 2 &&& 85) ≤ a := by decide +kernel
theorem mp_2 : ∀ a, a < 256 → ∀ c, c < 4 → (mp_u a / 4 + 64 * c &&& 51 = (mp_u a / 4 &&& 51)) ∧ mp_u a < 256 ∧ mp_w a ≤ 68 ∧ mp_w a % 16 ≤ 4 := by decide +kernel
theorem mp_3 : ∀ a, a < 256 → ∀ c, c < 5 → (mp_w a + mp_w a / 16 + 16 * c &&& 15) = mp_p a ∧ mp_p a ≤ 8 := by decide +kernel
theorem mp_4 : ∀ a, a < 256 → mp_p a = a % 2 + a / 2 % 2 + a / 4 % 2 + a / 8 % 2 + a / 16 % 2 + a / 32 % 2 + a / 64 % 2 + a / 128 % 2 := by decide +kernel
theorem mp_mask (x m a0 a1 a2 a3 : Nat) (hm : m < 256) (h0 : a0 < 256) (h1 : a1 < 256) (h2 : a2 < 256) (h3 : a3 < 256) (hx : x = a0 + 256 * (a1 + 256 * (a2 + 256 * a3))) : x &&& (m + 256 * (m + 256 * (m + 256 * m))) = (a0 &&& m) + 256 * ((a1 &&& m) + 256 * ((a2 &&& m) + 256 * (a3 &&& m))) := by
  subst hx
  rw [mp_and8, show (a0 + 256 * (a1 + 256 * (a2 + 256 * a3))) % 256 = a0 by omega, show (a0 + 256 * (a1 + 256 * (a2 + 256 * a3))) / 256 = a1 + 256 * (a2 + 256 * a3) by omega, show (m + 256 * (m + 256 * (m + 256 * m))) % 256 = m by omega, show (m + 256 * (m + 256 * (m + 256 * m))) / 256 = m + 256 * (m + 256 * m) by omega]
  rw [mp_and8 (a1 + 256 * (a2 + 256 * a3)), show (a1 + 256 * (a2 + 256 * a3)) % 256 = a1 by omega, show (a1 + 256 * (a2 + 256 * a3)) / 256 = a2 + 256 * a3 by omega, show (m + 256 * (m + 256 * m)) % 256 = m by omega, show (m + 256 * (m + 256 * m)) / 256 = m + 256 * m by omega]
  rw [mp_and8 (a2 + 256 * a3), show (a2 + 256 * a3) % 256 = a2 by omega, show (a2 + 256 * a3) / 256 = a3 by omega, show (m + 256 * m) % 256 = m by omega, show (m + 256 * m) / 256 = m by omega]
/-- the bits, counted as the machine counts them -/
theorem mp_all (z a0 a1 a2 a3 x1 x2 x3 x4 : Nat) (h0 : a0 < 256) (h1 : a1 < 256) (h2 : a2 < 256) (h3 : a3 < 256) (hz : z = a0 + 256 * (a1 + 256 * (a2 + 256 * a3)))
    (e1 : x1 = z - (z / 2 &&& 1431655765)) (e2 : x2 = (x1 &&& 858993459) + (x1 / 4 &&& 858993459)) (e3 : x3 = (x2 + x2 / 16) &&& 252645135) (e4 : x4 = x3 + x3 / 256) :
    (z / 2 &&& 1431655765) ≤ z ∧ x1 < 2 ^ 32 ∧ x2 < 2 ^ 31 ∧ x3 < 2 ^ 31 ∧ x4 < 2 ^ 31 ∧ (x4 + x4 / 65536) % 64 = mp_p a0 + mp_p a1 + mp_p a2 + mp_p a3 := by
  have k1 : z / 2 &&& 1431655765 = (a0 / 2 &&& 85) + 256 * ((a1 / 2 &&& 85) + 256 * ((a2 / 2 &&& 85) + 256 * (a3 / 2 &&& 85))) := by
    have h := mp_mask (z / 2) 85 (a0 / 2 + 128 * (a1 % 2)) (a1 / 2 + 128 * (a2 % 2)) (a2 / 2 + 128 * (a3 % 2)) (a3 / 2) (by decide) (by omega) (by omega) (by omega) (by omega) (by omega)
    rw [(mp_1 a0 h0 (a1 % 2) (by omega)).1, (mp_1 a1 h1 (a2 % 2) (by omega)).1, (mp_1 a2 h2 (a3 % 2) (by omega)).1] at h
    exact h
  have l0 := (mp_1 a0 h0 0 (by decide)).2
  have l1 := (mp_1 a1 h1 0 (by decide)).2
  have l2 := (mp_1 a2 h2 0 (by decide)).2
  have l3 := (mp_1 a3 h3 0 (by decide)).2
  have d1 : x1 = mp_u a0 + 256 * (mp_u a1 + 256 * (mp_u a2 + 256 * mp_u a3)) := by
    rw [e1, k1, hz]
    unfold mp_u
    omega
  obtain ⟨-, u0, w0, v0⟩ := mp_2 a0 h0 0 (by decide)
  obtain ⟨-, u1, w1, v1⟩ := mp_2 a1 h1 0 (by decide)
  obtain ⟨-, u2, w2, v2⟩ := mp_2 a2 h2 0 (by decide)
  obtain ⟨-, u3, w3, v3⟩ := mp_2 a3 h3 0 (by decide)
  have k2 : x1 / 4 &&& 858993459 = (mp_u a0 / 4 &&& 51) + 256 * ((mp_u a1 / 4 &&& 51) + 256 * ((mp_u a2 / 4 &&& 51) + 256 * (mp_u a3 / 4 &&& 51))) := by
    have h := mp_mask (x1 / 4) 51 (mp_u a0 / 4 + 64 * (mp_u a1 % 4)) (mp_u a1 / 4 + 64 * (mp_u a2 % 4)) (mp_u a2 / 4 + 64 * (mp_u a3 % 4)) (mp_u a3 / 4) (by decide) (by omega) (by omega) (by omega) (by omega) (by omega)
    rw [(mp_2 a0 h0 (mp_u a1 % 4) (by omega)).1, (mp_2 a1 h1 (mp_u a2 % 4) (by omega)).1, (mp_2 a2 h2 (mp_u a3 % 4) (by omega)).1] at h
    exact h
  have k3 := mp_mask x1 51 (mp_u a0) (mp_u a1) (mp_u a2) (mp_u a3) (by decide) u0 u1 u2 u3 d1
  have d2 : x2 = mp_w a0 + 256 * (mp_w a1 + 256 * (mp_w a2 + 256 * mp_w a3)) := by
    rw [e2, k2, show (858993459 : Nat) = 51 + 256 * (51 + 256 * (51 + 256 * 51)) by decide, k3]
    unfold mp_w
    omega
  have k4 : x3 = mp_p a0 + 256 * (mp_p a1 + 256 * (mp_p a2 + 256 * mp_p a3)) := by
    have h := mp_mask (x2 + x2 / 16) 15 (mp_w a0 + mp_w a0 / 16 + 16 * (mp_w a1 % 16)) (mp_w a1 + mp_w a1 / 16 + 16 * (mp_w a2 % 16)) (mp_w a2 + mp_w a2 / 16 + 16 * (mp_w a3 % 16)) (mp_w a3 + mp_w a3 / 16 + 16 * 0) (by decide) (by omega) (by omega) (by omega) (by omega) (by omega)
    rw [(mp_3 a0 h0 (mp_w a1 % 16) (by omega)).1, (mp_3 a1 h1 (mp_w a2 % 16) (by omega)).1, (mp_3 a2 h2 (mp_w a3 % 16) (by omega)).1, (mp_3 a3 h3 0 (by omega)).1] at h
    rw [e3]
    exact h
  have p0 := (mp_3 a0 h0 0 (by decide)).2
  have p1 := (mp_3 a1 h1 0 (by decide)).2
  have p2 := (mp_3 a2 h2 0 (by decide)).2
  have p3 := (mp_3 a3 h3 0 (by decide)).2
  refine ⟨?_, ?_, ?_, ?_, ?_, ?_⟩
  · rw [k1]; omega
  · rw [d1]; omega
  · rw [d2]; omega
  · rw [k4]; omega
  · rw [e4, k4]; omega
  · have q1 : x3 / 256 = mp_p a1 + 256 * mp_p a2 + 65536 * mp_p a3 := by rw [k4]; omega
    have q2 : x4 = (mp_p a0 + mp_p a1) + 256 * (mp_p a1 + mp_p a2) + 65536 * (mp_p a2 + mp_p a3) + 16777216 * mp_p a3 := by rw [e4, q1, k4]; omega
    have q3 : x4 / 65536 = (mp_p a2 + mp_p a3) + 256 * mp_p a3 := by rw [q2]; omega
    have q4 : x4 + x4 / 65536 = (mp_p a0 + mp_p a1 + mp_p a2 + mp_p a3) + 64 * (4 * (mp_p a1 + mp_p a2) + 1024 * (mp_p a2 + mp_p a3) + 262144 * mp_p a3 + 4 * mp_p a3) := by rw [q3, q2]; omega
    rw [q4, Nat.add_mul_mod_self_left, Nat.mod_eq_of_lt (by omega)]
theorem mu_and (a b : Nat) : nI a &&& nI b = nI (a &&& b) := by
  apply Int32.toBitVec_inj.1
  show BitVec.ofNat 32 a &&& BitVec.ofNat 32 b = BitVec.ofNat 32 (a &&& b)
  apply BitVec.eq_of_getLsbD_eq
  intro i hi
  simp [hi]
theorem mp_bc {z : Nat} (hz : z < 2 ^ 32) : mBc (nI z) = nI (mp_p (z % 256) + mp_p (z / 256 % 256) + mp_p (z / 65536 % 256) + mp_p (z / 16777216)) := by
  obtain ⟨s1, s2, s3, s4, s5, s6⟩ := mp_all z (z % 256) (z / 256 % 256) (z / 65536 % 256) (z / 16777216) _ _ _ _ (by omega) (by omega) (by omega) (by omega) (by omega) rfl rfl rfl rfl
  have e1 : mBc1 (nI z) = nI (z - (z / 2 &&& 1431655765)) := by
    show nI z - (mUs (nI z) (nI 1) &&& 1431655765) = _
    rw [show mUs (nI z) (nI 1) = nI (z / 2 ^ 1) from pk_ushrN hz _ 1 (mu_u 1 (by decide)), show (1431655765 : Int32) = nI 1431655765 from rfl, mu_and, Nat.pow_one, pk_sub s1]
  generalize z - (z / 2 &&& 1431655765) = x1 at *
  have e2 : mBc2 (nI x1) = nI ((x1 &&& 858993459) + (x1 / 4 &&& 858993459)) := by
    show (nI x1 &&& 858993459) + (mUs (nI x1) (nI 2) &&& 858993459) = _
    rw [show mUs (nI x1) (nI 2) = nI (x1 / 2 ^ 2) from pk_ushrN s2 _ 2 (mu_u 2 (by decide)), show (858993459 : Int32) = nI 858993459 from rfl, mu_and, mu_and, nI_add]
  generalize (x1 &&& 858993459) + (x1 / 4 &&& 858993459) = x2 at *
  have e3 : mBc3 (nI x2) = nI ((x2 + x2 / 16) &&& 252645135) := by
    show (nI x2 + mUs (nI x2) (nI 4)) &&& 252645135 = _
    rw [show mUs (nI x2) (nI 4) = nI (x2 / 2 ^ 4) from pk_ushrN (by omega) _ 4 (mu_u 4 (by decide)), show (252645135 : Int32) = nI 252645135 from rfl, nI_add, mu_and]
  generalize (x2 + x2 / 16) &&& 252645135 = x3 at *
  have e4 : mBc4 (nI x3) = nI (x3 + x3 / 256) := by
    show nI x3 + mUs (nI x3) (nI 8) = _
    rw [show mUs (nI x3) (nI 8) = nI (x3 / 2 ^ 8) from pk_ushrN (by omega) _ 8 (mu_u 8 (by decide)), nI_add]
  generalize x3 + x3 / 256 = x4 at *
  show mBc5 (mBc4 (mBc3 (mBc2 (mBc1 (nI z))))) = _
  rw [e1, e2, e3, e4]
  show (nI x4 + mUs (nI x4) (nI 16)) &&& nI 63 = _
  rw [show mUs (nI x4) (nI 16) = nI (x4 / 2 ^ 16) from pk_ushrN (by omega) _ 16 (mu_u 16 (by decide)), nI_add, pk_andN (by omega) 6 (by decide)]
  exact congrArg nI s6
theorem mt_bd (m q : Nat) : mt_b m q = m / 2 ^ q % 2 := by
  unfold mt_b
  rw [Nat.testBit_eq_decide_div_mod_eq]
  by_cases h : m / 2 ^ q % 2 = 1
  · rw [decide_eq_true h, if_pos rfl, h]
  · rw [decide_eq_false h, if_neg (by decide)]; omega
theorem mt_sum8 (z : Nat) : mp_p (z % 256) = mt_b z 0 + mt_b z 1 + mt_b z 2 + mt_b z 3 + mt_b z 4 + mt_b z 5 + mt_b z 6 + mt_b z 7 := by
  rw [mp_4 _ (Nat.mod_lt _ (by decide))]
  simp only [mt_bd]
  have a0 : z % 256 % 2 = z / 2 ^ 0 % 2 := by omega
  have a1 : z % 256 / 2 % 2 = z / 2 ^ 1 % 2 := by omega
  have a2 : z % 256 / 4 % 2 = z / 2 ^ 2 % 2 := by omega
  have a3 : z % 256 / 8 % 2 = z / 2 ^ 3 % 2 := by omega
  have a4 : z % 256 / 16 % 2 = z / 2 ^ 4 % 2 := by omega
  have a5 : z % 256 / 32 % 2 = z / 2 ^ 5 % 2 := by omega
  have a6 : z % 256 / 64 % 2 = z / 2 ^ 6 % 2 := by omega
  have a7 : z % 256 / 128 % 2 = z / 2 ^ 7 % 2 := by omega
  rw [a0, a1, a2, a3, a4, a5, a6, a7]
theorem mt_sh (z a q : Nat) : mt_b (z / 2 ^ a) q = mt_b z (a + q) := by
  rw [mt_bd, mt_bd, Nat.div_div_eq_div_mul, ← Nat.pow_add]
theorem mt_bc {z : Nat} (hz : z < 2 ^ 32) : mBc (nI z) = nI (mt_b z 0 + mt_b z 1 + mt_b z 2 + mt_b z 3 + mt_b z 4 + mt_b z 5 + mt_b z 6 + mt_b z 7 + mt_b z 8 + mt_b z 9 + mt_b z 10 + mt_b z 11 + mt_b z 12 + mt_b z 13 + mt_b z 14 + mt_b z 15 + mt_b z 16 + mt_b z 17 + mt_b z 18 + mt_b z 19 + mt_b z 20 + mt_b z 21 + mt_b z 22 + mt_b z 23 + mt_b z 24 + mt_b z 25 + mt_b z 26 + mt_b z 27 + mt_b z 28 + mt_b z 29 + mt_b z 30 + mt_b z 31) := by
  rw [mp_bc hz]
  have h3 : z / 16777216 = z / 2 ^ 24 % 256 := by omega
  have h2 : z / 65536 % 256 = z / 2 ^ 16 % 256 := by omega
  have h1 : z / 256 % 256 = z / 2 ^ 8 % 256 := by omega
  rw [h1, h2, h3, mt_sum8, mt_sum8, mt_sum8, mt_sum8]
  simp only [mt_sh, Nat.reduceAdd]
  exact congrArg nI (by omega)
/-- looks: as many bits as places looked at -/
theorem mt_looks (f g : Nat → Int32) : mBc (nI (mLook f g 15)) = nI (mCl f g 4 1) := by
  rw [mt_bc (mLook_lt f g 15 (by decide)), mt_cl]
  have h0 : mt_b (mLook f g 15) 0 = 0 := by
    unfold mt_b
    rw [mt_zero, if_neg (by decide)]
  rw [h0, Nat.zero_add]
theorem mt_differ (f g : Nat → Int32) : mDr (mLook f g 15) f g 16 = mCm f g 4 1 := mt_eq (mDr_lt _ f g 16 (by decide)) (mCm_lt f g 4 1 (by decide) (by decide) (by decide))
