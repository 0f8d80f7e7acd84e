/-! ===== the reference's numbers, seen as the class keeps them ===== -/
def mVw (v : Nat → Nat → Int32) : Nat → Nat → Int32 := fun w x =>
  if 400 ≤ w then (if x = 0 then v 7 (w - 400) else if x = 1 then v 8 (w - 400) else v 9 (w - 400))
  else if 300 ≤ w then mS (fun d => v 5 (16 * (w - 300) + d)) x else if 200 ≤ w then v 5 (16 * (w - 200) + x) else v 6 (w - 100)
section MVW
variable {v : Nat → Nat → Int32} {i j x : Nat}
theorem mVw_c (hi : i < 100) : mVw v (100 + i) x = v 6 i := by
  unfold mVw
  rw [if_neg (by omega), if_neg (by omega), if_neg (by omega), Nat.add_sub_cancel_left]
theorem mVw_t (hi : i < 100) : mVw v (200 + i) x = v 5 (16 * i + x) := by
  unfold mVw
  rw [if_neg (by omega), if_neg (by omega), if_pos (by omega), Nat.add_sub_cancel_left]
theorem mVw_s (hi : i < 100) : mVw v (300 + i) x = mS (fun d => v 5 (16 * i + d)) x := by
  unfold mVw
  rw [if_neg (by omega), if_pos (by omega), Nat.add_sub_cancel_left]
theorem mVw_0 : mVw v (400 + j) 0 = v 7 j := by
  unfold mVw
  rw [if_pos (by omega), if_pos rfl, Nat.add_sub_cancel_left]
theorem mVw_1 : mVw v (400 + j) 1 = v 8 j := by
  unfold mVw
  rw [if_pos (by omega), if_neg (by decide), if_pos rfl, Nat.add_sub_cancel_left]
theorem mVw_2 : mVw v (400 + j) 2 = v 9 j := by
  unfold mVw
  rw [if_pos (by omega), if_neg (by decide), if_neg (by decide), Nat.add_sub_cancel_left]
end MVW
/-- what the reference's methods leave: all but its flag and its scratch rows -/
def mQT (v v' : Nat → Nat → Int32) (t : Int32) : Prop := (∀ w, w ≠ 4 → w ≠ 10 → w ≠ 11 → v' w = v w) ∧ v' 4 0 = t ∧ v' 4 1 = v 4 1 ∧ v' 4 2 = v 4 2
def mQL (v v' : Nat → Nat → Int32) (c : Nat) : Prop := (∀ w, w ≠ 4 → v' w = v w) ∧ v' 4 0 = v 4 0 ∧ v' 4 1 = v 4 1 ∧ v' 4 2 = v 4 2 ∧ v' 4 10 = v 4 10 + nI c
def mQM (v v' : Nat → Nat → Int32) (t : Int32) (f5 f6 : Nat → Int32) : Prop := (∀ w, w ≠ 4 → w ≠ 5 → w ≠ 6 → w ≠ 10 → w ≠ 11 → v' w = v w) ∧ v' 4 0 = t ∧ v' 4 1 = v 4 1 ∧ v' 4 2 = v 4 2 ∧ v' 5 = f5 ∧ v' 6 = f6
def mL6 (f5 f6 : Nat → Int32) (i d : Nat) (t : Int32) : Nat → Int32 := if f5 (16 * i + d) = t then f6 else upd f6 i (f6 i + nI 1)
def mX5 (f : Nat → Int32) (i a b : Nat) : Nat → Int32 := upd (upd f (16 * i + a) (f (16 * i + b))) (16 * i + b) (f (16 * i + a))
theorem upd_id (f : Nat → Int32) (k : Nat) : upd f k (f k) = f := by
  funext j
  by_cases h : j = k
  · subst h; exact upd_s _ _ _
  · exact upd_n _ _ h
def mCm (f g : Nat → Int32) : Nat → Nat → Nat
  | 0, q => if f q = g q then 0 else 1 * 2 ^ (q - 16)
  | h + 1, q => if f q = g q then 0 else mCm f g h (2 * q) ||| mCm f g h (2 * q + 1)
def mCl (f g : Nat → Int32) : Nat → Nat → Nat
  | 0, _ => 1
  | h + 1, q => if f q = g q then 1 else 1 + mCl f g h (2 * q) + mCl f g h (2 * q + 1)
theorem mi_bad {x : Int32} {N M : Nat} (h : x < 0 ∨ nI M ≤ x) (hM : M = N + 1) (hN : M < 2 ^ 31) : x < nI 0 ∨ nI N < x := by
  subst hM
  rcases h with h | h
  · exact Or.inl h
  · refine Or.inr ?_
    rw [Int32.lt_iff_toInt_lt, nI_toInt (by omega)]
    rw [Int32.le_iff_toInt_le, nI_toInt hN] at h
    omega
theorem mi_bad1 {x : Int32} {n : Nat} (hn : n ≤ 20) (h : x < 0 ∨ nI n ≤ x) : x < nI 0 ∨ nI n - nI 1 < x := by
  rcases h with h | h
  · exact Or.inl h
  · refine Or.inr ?_
    rw [Int32.lt_iff_toInt_lt, pk_sub_toInt (by omega) (by decide)]
    rw [Int32.le_iff_toInt_le, nI_toInt (by omega)] at h
    omega
theorem mz_le {a : Nat} (ha : a < 2 ^ 31) : nI a ≤ 0 ↔ a = 0 := (nI_leI ha (by decide : 0 < 2 ^ 31)).trans Nat.le_zero
theorem mCm_eq {f f' g g' : Nat → Int32} (hf : ∀ q, 1 ≤ q → q < 32 → f q = f' q) (hg : ∀ q, 1 ≤ q → q < 32 → g q = g' q) : ∀ (h q : Nat), 1 ≤ q → q * 2 ^ h < 32 → (q + 1) * 2 ^ h ≤ 32 → mCm f g h q = mCm f' g' h q ∧ mCl f g h q = mCl f' g' h q := by
  intro h
  induction h with
  | zero =>
    intro q h1 h2 h3
    refine ⟨?_, rfl⟩
    show (if f q = g q then _ else _) = (if f' q = g' q then _ else _)
    rw [hf q h1 (by omega), hg q h1 (by omega)]
  | succ h ih =>
    intro q h1 h2 h3
    have e : 2 ^ (h + 1) = 2 * 2 ^ h := by rw [Nat.pow_succ, Nat.mul_comm]
    rw [e] at h2 h3
    have hp : 0 < 2 ^ h := Nat.pow_pos (by decide)
    have a1 : 2 * q * 2 ^ h = q * (2 * 2 ^ h) := by rw [Nat.mul_comm 2 q, Nat.mul_assoc]
    have a2 : (2 * q + 1 + 1) * 2 ^ h = (q + 1) * (2 * 2 ^ h) := by rw [show 2 * q + 1 + 1 = (q + 1) * 2 by omega, Nat.mul_assoc]
    have a3 : (2 * q + 1) * 2 ^ h = 2 * q * 2 ^ h + 2 ^ h := by rw [Nat.add_mul, Nat.one_mul]
    have a4 : (2 * q + 1 + 1) * 2 ^ h = (2 * q + 1) * 2 ^ h + 2 ^ h := by rw [Nat.add_mul (2 * q + 1) 1, Nat.one_mul]
    have hq : q < 32 := by
      have : q * 1 ≤ q * (2 * 2 ^ h) := Nat.mul_le_mul_left q (by omega)
      omega
    obtain ⟨b1, b2⟩ := ih (2 * q) (by omega) (by omega) (by omega)
    obtain ⟨c1, c2⟩ := ih (2 * q + 1) (by omega) (by omega) (by omega)
    refine ⟨?_, ?_⟩
    · show (if f q = g q then 0 else mCm f g h (2 * q) ||| mCm f g h (2 * q + 1)) = (if f' q = g' q then 0 else mCm f' g' h (2 * q) ||| mCm f' g' h (2 * q + 1))
      rw [hf q h1 hq, hg q h1 hq, b1, c1]
    · show (if f q = g q then 1 else 1 + mCl f g h (2 * q) + mCl f g h (2 * q + 1)) = (if f' q = g' q then 1 else 1 + mCl f' g' h (2 * q) + mCl f' g' h (2 * q + 1))
      rw [hf q h1 hq, hg q h1 hq, b2, c2]
theorem mBes_pos : ∀ d, d < 16 → ∀ t, t < 4 → 1 ≤ mBes d t := by decide +kernel
theorem mCm_lt (f g : Nat → Int32) : ∀ (h q : Nat), h ≤ 4 → q * 2 ^ h < 32 → (q + 1) * 2 ^ h ≤ 32 → mCm f g h q < 2 ^ 16 := by
  intro h
  induction h with
  | zero =>
    intro q _ h2 _
    show (if f q = g q then 0 else 1 * 2 ^ (q - 16)) < 2 ^ 16
    split
    · decide
    · rw [Nat.one_mul]; exact Nat.pow_lt_pow_right (by decide) (by omega)
  | succ h ih =>
    intro q h1 h2 h3
    have e : 2 ^ (h + 1) = 2 * 2 ^ h := by rw [Nat.pow_succ, Nat.mul_comm]
    rw [e] at h2 h3
    have hp : 0 < 2 ^ h := Nat.pow_pos (by decide)
    have a1 : 2 * q * 2 ^ h = q * (2 * 2 ^ h) := by rw [Nat.mul_comm 2 q, Nat.mul_assoc]
    have a2 : (2 * q + 1 + 1) * 2 ^ h = (q + 1) * (2 * 2 ^ h) := by rw [show 2 * q + 1 + 1 = (q + 1) * 2 by omega, Nat.mul_assoc]
    have a3 : (2 * q + 1) * 2 ^ h = 2 * q * 2 ^ h + 2 ^ h := by rw [Nat.add_mul, Nat.one_mul]
    have a4 : (2 * q + 1 + 1) * 2 ^ h = (2 * q + 1) * 2 ^ h + 2 ^ h := by rw [Nat.add_mul (2 * q + 1) 1, Nat.one_mul]
    show (if f q = g q then 0 else mCm f g h (2 * q) ||| mCm f g h (2 * q + 1)) < 2 ^ 16
    split
    · decide
    · exact Nat.or_lt_two_pow (ih (2 * q) (by omega) (by omega) (by omega)) (ih (2 * q + 1) (by omega) (by omega) (by omega))
def mMe5 (f : Nat → Int32) (a b z : Nat) : Nat → (Nat → Int32)
  | 0 => f
  | d + 1 => if z / 2 ^ d % 2 = 1 then upd (mMe5 f a b z d) (16 * b + d) (mMe5 f a b z d (16 * a + d)) else mMe5 f a b z d
def mMe6 (f g : Nat → Int32) (a b z : Nat) : Nat → (Nat → Int32)
  | 0 => g
  | d + 1 => if z / 2 ^ d % 2 = 1 then mL6 (mMe5 f a b z d) (mMe6 f g a b z d) b d (mMe5 f a b z d (16 * a + d)) else mMe6 f g a b z d
def mMeN (f : Nat → Int32) (a b z : Nat) : Nat → Nat
  | 0 => 0
  | d + 1 => mMeN f a b z d + if z / 2 ^ d % 2 = 1 ∧ ¬ mMe5 f a b z d (16 * b + d) = mMe5 f a b z d (16 * a + d) then 1 else 0
theorem mMeN_le (f : Nat → Int32) (a b z : Nat) : ∀ d, mMeN f a b z d ≤ d := by
  intro d
  induction d with
  | zero => exact Nat.le_refl _
  | succ d ih =>
    show mMeN f a b z d + (if _ then 1 else 0) ≤ d + 1
    split <;> omega
theorem mApart_eq {f f' g g' : Nat → Int32} (hf : ∀ q, 1 ≤ q → q < 32 → f q = f' q) (hg : ∀ q, 1 ≤ q → q < 32 → g q = g' q) : ∀ q, q < 32 → mApart f g q = mApart f' g' q := by
  intro q
  induction q with
  | zero => intro _; rfl
  | succ q ih =>
    intro h
    show mApart f g q + (if f (q + 1) = g (q + 1) then 0 else 1) = mApart f' g' q + (if f' (q + 1) = g' (q + 1) then 0 else 1)
    rw [ih (by omega), hf (q + 1) (by omega) h, hg (q + 1) (by omega) h]
theorem mTo1_eq {f f' : Nat → Int32} (hf : ∀ q, 1 ≤ q → q < 32 → f q = f' q) (x : Int32) : ∀ q, q < 32 → mTo1 f x q = mTo1 f' x q := by
  intro q
  induction q with
  | zero => intro _; rfl
  | succ q ih =>
    intro h
    show mTo1 f x q + f (q + 1) = mTo1 f' x q + f' (q + 1)
    rw [ih (by omega), hf (q + 1) (by omega) h]
theorem mX5_twice (f : Nat → Int32) (i a b : Nat) : mX5 (mX5 f i a b) i a b = f := by
  funext x
  unfold mX5
  by_cases hb : x = 16 * i + b
  · subst hb
    rw [upd_s]
    by_cases hab : 16 * i + a = 16 * i + b
    · rw [hab, upd_s]
    · rw [upd_n _ _ hab, upd_s]
  · rw [upd_n _ _ hb]
    by_cases ha : x = 16 * i + a
    · subst ha; rw [upd_s, upd_s]
    · rw [upd_n _ _ ha, upd_n _ _ hb, upd_n _ _ ha]
theorem mX5_row (f : Nat → Int32) (i a b d : Nat) : mX5 f i a b (16 * i + d) = mExch (fun d => f (16 * i + d)) a b d := by
  unfold mX5 mExch
  by_cases hb : d = b
  · subst hb; rw [upd_s, upd_s]
  · rw [upd_n _ _ (by omega), upd_n _ _ hb]
    by_cases ha : d = a
    · subst ha; rw [upd_s, upd_s]
    · rw [upd_n _ _ (by omega), upd_n _ _ ha]
