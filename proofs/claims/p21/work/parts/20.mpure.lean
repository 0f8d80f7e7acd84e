/-! ===== drawers that differ, and places looked at, from the root down ===== -/
def mCm (f g : Nat → Int32) : Nat → Nat → Nat
  | 0, q => if f q = g q then 0 else 1 * 2 ^ (q - 16)
  | h + 1, q => if f q = g q then 0 else mCm f g h (2 * q) ||| mCm f g h (2 * q + 1)
def mCl (f g : Nat → Int32) : Nat → Nat → Nat
  | 0, _ => 1
  | h + 1, q => if f q = g q then 1 else 1 + mCl f g h (2 * q) + mCl f g h (2 * q + 1)
theorem mCm_eq {f f' g g' : Nat → Int32} (hf : ∀ q, 1 ≤ q → q < 32 → f q = f' q) (hg : ∀ q, 1 ≤ q → q < 32 → g q = g' q) : ∀ (h q : Nat), 1 ≤ q → q * 2 ^ h < 32 → (q + 1) * 2 ^ h ≤ 32 → mCm f g h q = mCm f' g' h q ∧ mCl f g h q = mCl f' g' h q := by
  intro h
  induction h with
  | zero =>
    intro q h1 h2 h3
    refine ⟨?_, rfl⟩
    show (if f q = g q then _ else _) = (if f' q = g' q then _ else _)
    rw [hf q h1 (by omega), hg q h1 (by omega)]
  | succ h ih =>
    intro q h1 h2 h3
    have e : 2 ^ (h + 1) = 2 * 2 ^ h := by rw [Nat.pow_succ, Nat.mul_comm]
    rw [e] at h2 h3
    have hp : 0 < 2 ^ h := Nat.pow_pos (by decide)
    have a1 : 2 * q * 2 ^ h = q * (2 * 2 ^ h) := by rw [Nat.mul_comm 2 q, Nat.mul_assoc]
    have a2 : (2 * q + 1 + 1) * 2 ^ h = (q + 1) * (2 * 2 ^ h) := by rw [show 2 * q + 1 + 1 = (q + 1) * 2 by omega, Nat.mul_assoc]
    have a3 : (2 * q + 1) * 2 ^ h = 2 * q * 2 ^ h + 2 ^ h := by rw [Nat.add_mul, Nat.one_mul]
    have a4 : (2 * q + 1 + 1) * 2 ^ h = (2 * q + 1) * 2 ^ h + 2 ^ h := by rw [Nat.add_mul (2 * q + 1) 1, Nat.one_mul]
    have hq : q < 32 := by
      have : q * 1 ≤ q * (2 * 2 ^ h) := Nat.mul_le_mul_left q (by omega)
      omega
    obtain ⟨b1, b2⟩ := ih (2 * q) (by omega) (by omega) (by omega)
    obtain ⟨c1, c2⟩ := ih (2 * q + 1) (by omega) (by omega) (by omega)
    refine ⟨?_, ?_⟩
    · show (if f q = g q then 0 else mCm f g h (2 * q) ||| mCm f g h (2 * q + 1)) = (if f' q = g' q then 0 else mCm f' g' h (2 * q) ||| mCm f' g' h (2 * q + 1))
      rw [hf q h1 hq, hg q h1 hq, b1, c1]
    · show (if f q = g q then 1 else 1 + mCl f g h (2 * q) + mCl f g h (2 * q + 1)) = (if f' q = g' q then 1 else 1 + mCl f' g' h (2 * q) + mCl f' g' h (2 * q + 1))
      rw [hf q h1 hq, hg q h1 hq, b2, c2]
theorem mCm_lt (f g : Nat → Int32) : ∀ (h q : Nat), h ≤ 4 → q * 2 ^ h < 32 → (q + 1) * 2 ^ h ≤ 32 → mCm f g h q < 2 ^ 16 := by
  intro h
  induction h with
  | zero =>
    intro q _ h2 _
    show (if f q = g q then 0 else 1 * 2 ^ (q - 16)) < 2 ^ 16
    split
    · decide
    · rw [Nat.one_mul]; exact Nat.pow_lt_pow_right (by decide) (by omega)
  | succ h ih =>
    intro q h1 h2 h3
    have e : 2 ^ (h + 1) = 2 * 2 ^ h := by rw [Nat.pow_succ, Nat.mul_comm]
    rw [e] at h2 h3
    have hp : 0 < 2 ^ h := Nat.pow_pos (by decide)
    have a1 : 2 * q * 2 ^ h = q * (2 * 2 ^ h) := by rw [Nat.mul_comm 2 q, Nat.mul_assoc]
    have a2 : (2 * q + 1 + 1) * 2 ^ h = (q + 1) * (2 * 2 ^ h) := by rw [show 2 * q + 1 + 1 = (q + 1) * 2 by omega, Nat.mul_assoc]
    have a3 : (2 * q + 1) * 2 ^ h = 2 * q * 2 ^ h + 2 ^ h := by rw [Nat.add_mul, Nat.one_mul]
    have a4 : (2 * q + 1 + 1) * 2 ^ h = (2 * q + 1) * 2 ^ h + 2 ^ h := by rw [Nat.add_mul (2 * q + 1) 1, Nat.one_mul]
    show (if f q = g q then 0 else mCm f g h (2 * q) ||| mCm f g h (2 * q + 1)) < 2 ^ 16
    split
    · decide
    · exact Nat.or_lt_two_pow (ih (2 * q) (by omega) (by omega) (by omega)) (ih (2 * q + 1) (by omega) (by omega) (by omega))
