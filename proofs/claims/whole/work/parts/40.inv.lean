/-! ===== class and reference agree ===== -/
def mInv (n k : Nat) (v : Nat → Nat → Int32) (cs : Nat → Nat) : Prop :=
  n ≤ 6 ∧ k ≤ 20 ∧ v 4 1 = nI n ∧ v 4 2 = nI k ∧ (∀ i, i < n → (∀ d, d < 16 → v (200 + i) d = v 5 (16 * i + d)) ∧ v (100 + i) 2 = v 6 i ∧ mCon (v (300 + i)) (v (200 + i))) ∧
  (∀ j, j < k → cs j < n ∧ v 7 j = nI (cs j) ∧ v (400 + j) 0 = nI (cs j) ∧ v (400 + j) 1 = v 8 j ∧ v (400 + j) 2 = v 9 j) ∧ (∀ i, n ≤ i → i < 6 → v 6 i = 0 ∧ ∀ d, d < 16 → v 5 (16 * i + d) = 0)
def mAgr (n k : Nat) (v w : Nat → Nat → Int32) : Prop :=
  (∀ i, i < n → (∀ d, d < 16 → v (200 + i) d = w (200 + i) d) ∧ v (100 + i) 2 = w (100 + i) 2 ∧ ∀ q, 1 ≤ q → q < 32 → v (300 + i) q = w (300 + i) q) ∧ ∀ j, j < k → v (400 + j) 0 = w (400 + j) 0 ∧ v (400 + j) 1 = w (400 + j) 1 ∧ v (400 + j) 2 = w (400 + j) 2
theorem mi_or (x : Int32) {n : Nat} (hn : n < 2 ^ 31) : (∃ i, i < n ∧ x = nI i) ∨ (x < 0 ∨ nI n ≤ x) := by
  by_cases h1 : x < 0
  · exact Or.inr (Or.inl h1)
  by_cases h2 : nI n ≤ x
  · exact Or.inr (Or.inr h2)
  refine Or.inl ⟨x.toInt.toNat, ?_, ?_⟩
  · rw [Int32.lt_iff_toInt_lt, Int32.toInt_zero] at h1
    rw [Int32.le_iff_toInt_le, nI_toInt hn] at h2
    omega
  · rw [Int32.lt_iff_toInt_lt, Int32.toInt_zero] at h1
    rw [Int32.le_iff_toInt_le, nI_toInt hn] at h2
    apply Int32.toInt_inj.mp
    rw [nI_toInt (by omega)]
    omega
section MAG
variable {n k : Nat} {v w : Nat → Nat → Int32} {cs : Nat → Nat}
theorem mInv_agr (h : mInv n k v cs) : mAgr n k v (mVw v) := by
  obtain ⟨h1, h2, -, -, hi, hj, -⟩ := h
  refine ⟨fun i hi' => ⟨fun d hd => ?_, ?_, fun q q1 q2 => ?_⟩, fun j hj' => ⟨?_, ?_, ?_⟩⟩
  · rw [mVw_t (by omega)]; exact (hi i hi').1 d hd
  · rw [mVw_c (by omega)]; exact (hi i hi').2.1
  · rw [mVw_s (by omega)]
    exact mCon_S (mCon_things (hi i hi').2.2 (fun d hd => ((hi i hi').1 d hd).symm)) q q1 q2
  · rw [mVw_0]; exact (hj j hj').2.2.1.trans (hj j hj').2.1.symm
  · rw [mVw_1]; exact (hj j hj').2.2.2.1
  · rw [mVw_2]; exact (hj j hj').2.2.2.2
theorem mFill_eq {f g : Nat → Int32} (h : ∀ d, d < 16 → f d = g d) : ∀ t, t ≤ 16 → mFill f t = mFill g t := by
  intro t
  induction t with
  | zero => intro _; rfl
  | succ t ih =>
    intro ht
    show mFill f t + (if f t = 0 then 0 else 1) = mFill g t + (if g t = 0 then 0 else 1)
    rw [ih (by omega), h t (by omega)]
theorem mAdd_eq {f g : Nat → Int32} (h : ∀ d, d < 16 → f d = g d) : ∀ t, t ≤ 16 → mAdd f t = mAdd g t := by
  intro t
  induction t with
  | zero => intro _; rfl
  | succ t ih =>
    intro ht
    show mAdd f t + f t = mAdd g t + g t
    rw [ih (by omega), h t (by omega)]
theorem mSof_eq (h : mAgr n k v w) (x : Int32) : ∀ t, t ≤ k → mSof v x t = mSof w x t := by
  intro t
  induction t with
  | zero => intro _; rfl
  | succ t ih =>
    intro ht
    show mSof v x t + (if v (400 + t) 0 = x then 1 else 0) = mSof w x t + (if w (400 + t) 0 = x then 1 else 0)
    rw [ih (by omega), (h.2 t (by omega)).1]
theorem mSkp_eq (h : mAgr n k v w) (x y : Int32) : ∀ t, t ≤ k → mSkp v x y t = mSkp w x y t := by
  intro t
  induction t with
  | zero => intro _; rfl
  | succ t ih =>
    intro ht
    show mSkp v x y t + (if v (400 + t) 0 = x ∧ v (400 + t) 1 = y then 1 else 0) = mSkp w x y t + (if w (400 + t) 0 = x ∧ w (400 + t) 1 = y then 1 else 0)
    rw [ih (by omega), (h.2 t (by omega)).1, (h.2 t (by omega)).2.1]
theorem mRt_eq (h : mAgr n k v w) {i : Nat} (hi : i < n) : v (300 + i) 1 = w (300 + i) 1 := (h.1 i hi).2.2 1 (by decide) (by decide)
theorem mHas_eq (h : mAgr n k v w) (x : Int32) : ∀ t, t ≤ n → mHas v x t = mHas w x t := by
  intro t
  induction t with
  | zero => intro _; rfl
  | succ t ih =>
    intro ht
    show (mHas v x t || decide (v (300 + t) 1 = x)) = (mHas w x t || decide (w (300 + t) 1 = x))
    rw [ih (by omega), mRt_eq h (by omega)]
theorem mDif_eq (h : mAgr n k v w) : ∀ t, t ≤ n → mDif v t = mDif w t := by
  intro t
  induction t with
  | zero => intro _; rfl
  | succ t ih =>
    intro ht
    show mDif v t + (if mHas v (v (300 + t) 1) t = true then 0 else 1) = mDif w t + (if mHas w (w (300 + t) 1) t = true then 0 else 1)
    rw [ih (by omega), mRt_eq h (by omega), mHas_eq h _ t (by omega)]
theorem mChs_eq (h : mAgr n k v w) : ∀ t, t ≤ n → mChs v t = mChs w t := by
  intro t
  induction t with
  | zero => intro _; rfl
  | succ t ih =>
    intro ht
    show mChs v t + v (100 + t) 2 = mChs w t + w (100 + t) 2
    rw [ih (by omega), (h.1 t (by omega)).2.1]
theorem mTold_eq (h : mAgr n k v w) {i : Nat} (hi : i < n) (t : Nat) : mTold v k i t = mTold w k i t := by
  match t with
  | 0 => exact mRt_eq h hi
  | 1 => exact (h.1 i hi).2.1
  | 2 => exact congrArg nI (mFill_eq (h.1 i hi).1 16 (Nat.le_refl _))
  | 3 => exact mAdd_eq (h.1 i hi).1 16 (Nat.le_refl _)
  | 4 => exact congrArg nI (mSof_eq h _ k (Nat.le_refl _))
  | t + 5 =>
    show nI (mSkp v (nI i) (v (300 + i) 1) k) = nI (mSkp w (nI i) (w (300 + i) 1) k)
    rw [mRt_eq h hi, mSkp_eq h _ _ k (Nat.le_refl _)]
theorem mAbout_eq (h : mAgr n k v w) {j c : Nat} (hj : j < k) (hc : c < n) (t : Nat) : mAbout v j c t = mAbout w j c t := by
  match t with
  | 0 => rfl
  | 1 => exact (h.2 j hj).2.1
  | 2 => exact (h.2 j hj).2.2
  | t + 3 =>
    show v (100 + c) 2 - v (400 + j) 2 = w (100 + c) 2 - w (400 + j) 2
    rw [(h.1 c hc).2.1, (h.2 j hj).2.2]
theorem mCount_eq (h : mAgr n k v w) (t : Nat) : mCount v n k t = mCount w n k t := by
  match t with
  | 0 => rfl
  | 1 => rfl
  | 2 => exact congrArg nI (mDif_eq h n (Nat.le_refl _))
  | t + 3 => exact mChs_eq h n (Nat.le_refl _)
end MAG
