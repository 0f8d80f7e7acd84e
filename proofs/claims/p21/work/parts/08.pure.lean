/-! ===== the numbers ===== -/
def mMod (x : Int32) : Int32 := x - x / nI 997 * nI 997
def mLeaf (d t : Int32) : Int32 := mMod ((nI 37 * t) + (nI 101 * (d + nI 1)))
def mJoin (a b p : Int32) : Int32 := mMod (((nI 61 * a) + (nI 89 * b)) + p)
def mAbove (q : Nat) (own beside : Int32) : Int32 := if q % 2 = 0 then mJoin own beside (nI (q / 2)) else mJoin beside own (nI (q / 2))
def mUpL : Nat → Nat → (Nat → Int32) → (Nat → Int32)
  | 0, _, g => g
  | f + 1, q, g => if q < 1 then g else mUpL f (q / 2) (upd g q (mJoin (g (2 * q)) (g (2 * q + 1)) (nI q)))
def mSumUp (g : Nat → Int32) (d : Nat) (t : Int32) : Nat → Int32 := mUpL 32 ((16 + d) / 2) (upd g (16 + d) (mLeaf (nI d) t))
def mApart (f g : Nat → Int32) : Nat → Nat
  | 0 => 0
  | q + 1 => mApart f g q + if f (q + 1) = g (q + 1) then 0 else 1
def mLook (f g : Nat → Int32) : Nat → Nat
  | 0 => 2
  | q + 1 => if mLook f g q / 2 ^ (q + 1) % 2 = 1 ∧ ¬ f (q + 1) = g (q + 1) then mLook f g q ||| 3 * 2 ^ (2 * (q + 1)) else mLook f g q
def mDr (m : Nat) (f g : Nat → Int32) : Nat → Nat
  | 0 => 0
  | d + 1 => if m / 2 ^ (16 + d) % 2 = 1 ∧ ¬ f (16 + d) = g (16 + d) then mDr m f g d ||| 1 * 2 ^ d else mDr m f g d
def mFill (f : Nat → Int32) : Nat → Nat
  | 0 => 0
  | d + 1 => mFill f d + if f d = 0 then 0 else 1
def mAdd (f : Nat → Int32) : Nat → Int32
  | 0 => nI 0
  | d + 1 => mAdd f d + f d
/-- the place beside the way of the drawer d, by the steps of it -/
def mBes (d t : Nat) : Nat := if (16 + d) / 2 ^ t % 2 = 0 then (16 + d) / 2 ^ t + 1 else (16 + d) / 2 ^ t - 1
theorem mz_eq {a : Nat} (ha : a < 2 ^ 31) : nI a = 0 ↔ a = 0 := nI_eq ha (by decide)
theorem mu_u : ∀ n, n < 32 → (((nI n).toUInt32 &&& Int32.toUInt32 31).toBitVec % 32).toNat = n := by decide +kernel
theorem mu_l : ∀ n, n < 32 → ((nI n &&& 31).toBitVec.smod 32).toNat = n := by decide +kernel
theorem mu_or (a b : Nat) : nI a ||| nI b = nI (a ||| b) := by
  apply Int32.toBitVec_inj.1
  show BitVec.ofNat 32 a ||| BitVec.ofNat 32 b = BitVec.ofNat 32 (a ||| b)
  apply BitVec.eq_of_getLsbD_eq
  intro i hi
  simp [hi]
theorem mu_xor (a b : Nat) : nI a ^^^ nI b = nI (a ^^^ b) := by
  apply Int32.toBitVec_inj.1
  show BitVec.ofNat 32 a ^^^ BitVec.ofNat 32 b = BitVec.ofNat 32 (a ^^^ b)
  apply BitVec.eq_of_getLsbD_eq
  intro i hi
  simp [hi]
theorem mu_bes : ∀ d, d < 16 → ∀ t, t < 4 → (16 + d) / 2 ^ t ^^^ 1 = mBes d t := by decide +kernel
theorem mBes_lt : ∀ d, d < 16 → ∀ t, t < 4 → mBes d t < 32 := by decide +kernel
theorem mLook_lt (f g : Nat → Int32) : ∀ q, q ≤ 15 → mLook f g q < 2 ^ 32 := by
  intro q
  induction q with
  | zero => intro _; exact (by decide : 2 < 2 ^ 32)
  | succ q ih =>
    intro h
    have h1 := ih (by omega)
    show (if _ then _ else _) < _
    split
    · refine Nat.or_lt_two_pow h1 ?_
      have : 2 ^ (2 * (q + 1)) ≤ 2 ^ 30 := Nat.pow_le_pow_right (by decide) (by omega)
      omega
    · exact h1
theorem mDr_lt (m : Nat) (f g : Nat → Int32) : ∀ d, d ≤ 16 → mDr m f g d < 2 ^ 16 := by
  intro d
  induction d with
  | zero => intro _; exact (by decide : 0 < 2 ^ 16)
  | succ d ih =>
    intro h
    have h1 := ih (by omega)
    show (if _ then _ else _) < _
    split
    · refine Nat.or_lt_two_pow h1 ?_
      have : 2 ^ d < 2 ^ 16 := Nat.pow_lt_pow_right (by decide) (by omega)
      omega
    · exact h1
theorem mApart_le (f g : Nat → Int32) : ∀ q, mApart f g q ≤ q := by
  intro q
  induction q with
  | zero => exact Nat.le_refl _
  | succ q ih =>
    show mApart f g q + (if f (q + 1) = g (q + 1) then 0 else 1) ≤ q + 1
    split <;> omega
theorem mFill_le (f : Nat → Int32) : ∀ q, mFill f q ≤ q := by
  intro q
  induction q with
  | zero => exact Nat.le_refl _
  | succ q ih =>
    show mFill f q + (if f q = 0 then 0 else 1) ≤ q + 1
    split <;> omega
/-- what lay does to the numbers -/
def mLay1 (v : Nat → Nat → Int32) (i d : Nat) (t : Int32) : Nat → Nat → Int32 :=
  va_up (va_up (va_up v (200 + i) (upd (v (200 + i)) d t)) (100 + i) (upd (v (100 + i)) 2 (v (100 + i) 2 + nI 1))) (300 + i) (mSumUp (v (300 + i)) d t)
def mLay (v : Nat → Nat → Int32) (i d : Nat) (t : Int32) : Nat → Nat → Int32 := if v (200 + i) d = t then v else mLay1 v i d t
def mRws (g f : Nat → Int32) (a b : Nat) : Nat → Int32 := mSumUp (mSumUp g a (f b)) b (f a)
def mRwt (g f : Nat → Int32) (a b : Nat) : Nat → Int32 := mSumUp (mSumUp (mRws g f a b) a (f a)) b (f b)
def mSof (v : Nat → Nat → Int32) (x : Int32) : Nat → Nat
  | 0 => 0
  | j + 1 => mSof v x j + if v (400 + j) 0 = x then 1 else 0
def mSkp (v : Nat → Nat → Int32) (x y : Int32) : Nat → Nat
  | 0 => 0
  | j + 1 => mSkp v x y j + if v (400 + j) 0 = x ∧ v (400 + j) 1 = y then 1 else 0
/-- whether one of the first cupboards has this root -/
def mHas (v : Nat → Nat → Int32) (x : Int32) : Nat → Bool
  | 0 => false
  | i + 1 => mHas v x i || decide (v (300 + i) 1 = x)
theorem mHas_iff (v : Nat → Nat → Int32) (x : Int32) : ∀ i, mHas v x i = true ↔ ∃ c, c < i ∧ v (300 + c) 1 = x := by
  intro i
  induction i with
  | zero => exact ⟨fun h => (by cases h), fun ⟨c, h, _⟩ => absurd h (Nat.not_lt_zero c)⟩
  | succ i ih =>
    show (mHas v x i || decide (v (300 + i) 1 = x)) = true ↔ _
    rw [Bool.or_eq_true, decide_eq_true_iff, ih]
    refine ⟨fun h => ?_, fun ⟨c, h1, h2⟩ => ?_⟩
    · rcases h with ⟨c, h1, h2⟩ | h
      · exact ⟨c, by omega, h2⟩
      · exact ⟨i, by omega, h⟩
    · by_cases e : c = i
      · subst e; exact Or.inr h2
      · exact Or.inl ⟨c, by omega, h2⟩
def mDif (v : Nat → Nat → Int32) : Nat → Nat
  | 0 => 0
  | i + 1 => mDif v i + if mHas v (v (300 + i) 1) i = true then 0 else 1
def mChs (v : Nat → Nat → Int32) : Nat → Int32
  | 0 => nI 0
  | i + 1 => mChs v i + v (100 + i) 2
theorem mSof_le (v : Nat → Nat → Int32) (x : Int32) : ∀ j, mSof v x j ≤ j := by
  intro j
  induction j with
  | zero => exact Nat.le_refl _
  | succ j ih =>
    show mSof v x j + (if v (400 + j) 0 = x then 1 else 0) ≤ j + 1
    split <;> omega
theorem mSkp_le (v : Nat → Nat → Int32) (x y : Int32) : ∀ j, mSkp v x y j ≤ j := by
  intro j
  induction j with
  | zero => exact Nat.le_refl _
  | succ j ih =>
    show mSkp v x y j + (if v (400 + j) 0 = x ∧ v (400 + j) 1 = y then 1 else 0) ≤ j + 1
    split <;> omega
theorem mDif_le (v : Nat → Nat → Int32) : ∀ i, mDif v i ≤ i := by
  intro i
  induction i with
  | zero => exact Nat.le_refl _
  | succ i ih =>
    show mDif v i + (if mHas v (v (300 + i) 1) i = true then 0 else 1) ≤ i + 1
    split <;> omega
def mTold (v : Nat → Nat → Int32) (k i : Nat) : Nat → Int32
  | 0 => v (300 + i) 1
  | 1 => v (100 + i) 2
  | 2 => nI (mFill (v (200 + i)) 16)
  | 3 => mAdd (v (200 + i)) 16
  | 4 => nI (mSof v (nI i) k)
  | _ => nI (mSkp v (nI i) (v (300 + i) 1) k)
def mAbout (v : Nat → Nat → Int32) (j c : Nat) : Nat → Int32
  | 0 => nI c
  | 1 => v (400 + j) 1
  | 2 => v (400 + j) 2
  | _ => v (100 + c) 2 - v (400 + j) 2
def mCount (v : Nat → Nat → Int32) (n k : Nat) : Nat → Int32
  | 0 => nI n
  | 1 => nI k
  | 2 => nI (mDif v n)
  | _ => mChs v n
def mComes (d : Nat) (t a b x y : Int32) : Int32 := mAbove ((16 + d) / 8) (mAbove ((16 + d) / 4) (mAbove ((16 + d) / 2) (mAbove (16 + d) (mLeaf (nI d) t) a) b) x) y
def mPrf (g : Nat → Int32) (d : Nat) (x : Int32) : Nat → Int32
  | 0 => mLeaf (nI d) x
  | t + 1 => mAbove ((16 + d) / 2 ^ t) (mPrf g d x t) (g (mBes d t))
def mSwap (v : Nat → Nat → Int32) (i a b : Nat) : Nat → Nat → Int32 :=
  mLay (mLay (va_up v 3 (va_cpy (v (300 + i)) (v 3) 0 0 32)) i a (v (200 + i) b)) i b (v (200 + i) a)
def mMend (v : Nat → Nat → Int32) (a b z : Nat) : Nat → (Nat → Nat → Int32)
  | 0 => v
  | d + 1 => if z / 2 ^ d % 2 = 1 then mLay (mMend v a b z d) b d (mMend v a b z d (200 + a) d) else mMend v a b z d
abbrev mUs (x s : Int32) : Int32 := (x.toUInt32 >>> (s.toUInt32 &&& Int32.toUInt32 31)).toInt32
def mBc1 (x : Int32) : Int32 := x - (mUs x (nI 1) &&& 1431655765)
def mBc2 (x : Int32) : Int32 := (x &&& 858993459) + (mUs x (nI 2) &&& 858993459)
def mBc3 (x : Int32) : Int32 := (x + mUs x (nI 4)) &&& 252645135
def mBc4 (x : Int32) : Int32 := x + mUs x (nI 8)
def mBc5 (x : Int32) : Int32 := (x + mUs x (nI 16)) &&& nI 63
def mBc (x : Int32) : Int32 := mBc5 (mBc4 (mBc3 (mBc2 (mBc1 x))))
theorem mLay_ne (v : Nat → Nat → Int32) (i d : Nat) (t : Int32) {w : Nat} (h1 : w ≠ 100 + i) (h2 : w ≠ 200 + i) (h3 : w ≠ 300 + i) : mLay v i d t w = v w := by
  unfold mLay
  split
  · rfl
  · unfold mLay1
    rw [va_up_n _ _ h3, va_up_n _ _ h1, va_up_n _ _ h2]
