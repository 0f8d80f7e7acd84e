/-! ===== sums that fit their things ===== -/
def mCon (g f : Nat → Int32) : Prop := (∀ d, d < 16 → g (16 + d) = mLeaf (nI d) (f d)) ∧ ∀ q, 1 ≤ q → q < 16 → g q = mJoin (g (2 * q)) (g (2 * q + 1)) (nI q)
def mSf (f : Nat → Int32) : Nat → Nat → Int32
  | 0, q => mLeaf (nI (q - 16)) (f (q - 16))
  | h + 1, q => mJoin (mSf f h (2 * q)) (mSf f h (2 * q + 1)) (nI q)
def mHt (q : Nat) : Nat := if 16 ≤ q then 0 else if 8 ≤ q then 1 else if 4 ≤ q then 2 else if 2 ≤ q then 3 else 4
/-- the sum at a place, of the things -/
def mS (f : Nat → Int32) (q : Nat) : Int32 := mSf f (mHt q) q
theorem mS_leaf (f : Nat → Int32) {d : Nat} : mS f (16 + d) = mLeaf (nI d) (f d) := by
  have h : mHt (16 + d) = 0 := if_pos (by omega)
  unfold mS
  rw [h]
  show mLeaf (nI (16 + d - 16)) (f (16 + d - 16)) = _
  rw [Nat.add_sub_cancel_left]
theorem mHt_step : ∀ q, q < 16 → 1 ≤ q → mHt q = mHt (2 * q) + 1 ∧ mHt (2 * q + 1) = mHt (2 * q) := by decide +kernel
theorem mS_join (f : Nat → Int32) {q : Nat} (h1 : 1 ≤ q) (h2 : q < 16) : mS f q = mJoin (mS f (2 * q)) (mS f (2 * q + 1)) (nI q) := by
  obtain ⟨e1, e2⟩ := mHt_step q h2 h1
  unfold mS
  rw [e2, e1]
  rfl
theorem mS_con (f : Nat → Int32) : mCon (mS f) f := ⟨fun d _ => mS_leaf f, fun q h1 h2 => mS_join f h1 h2⟩
theorem mCon_S {g f : Nat → Int32} (h : mCon g f) : ∀ q, 1 ≤ q → q < 32 → g q = mS f q := by
  have h0 : ∀ q, 16 ≤ q → q < 32 → g q = mS f q := fun q a b => by
    obtain ⟨d, rfl⟩ : ∃ d, q = 16 + d := ⟨q - 16, by omega⟩
    rw [h.1 d (by omega), mS_leaf]
  have st : ∀ q, 1 ≤ q → q < 16 → g (2 * q) = mS f (2 * q) → g (2 * q + 1) = mS f (2 * q + 1) → g q = mS f q := fun q a b c e => by
    rw [h.2 q a b, mS_join f a b, c, e]
  have h1 : ∀ q, 8 ≤ q → q < 32 → g q = mS f q := fun q a b => by
    rcases Nat.lt_or_ge q 16 with c | c
    · exact st q (by omega) c (h0 _ (by omega) (by omega)) (h0 _ (by omega) (by omega))
    · exact h0 q c b
  have h2 : ∀ q, 4 ≤ q → q < 32 → g q = mS f q := fun q a b => by
    rcases Nat.lt_or_ge q 8 with c | c
    · exact st q (by omega) (by omega) (h1 _ (by omega) (by omega)) (h1 _ (by omega) (by omega))
    · exact h1 q c b
  have h3 : ∀ q, 2 ≤ q → q < 32 → g q = mS f q := fun q a b => by
    rcases Nat.lt_or_ge q 4 with c | c
    · exact st q (by omega) (by omega) (h2 _ (by omega) (by omega)) (h2 _ (by omega) (by omega))
    · exact h2 q c b
  intro q a b
  rcases Nat.lt_or_ge q 2 with c | c
  · exact st q a (by omega) (h3 _ (by omega) (by omega)) (h3 _ (by omega) (by omega))
  · exact h3 q c b
theorem mCon_eq {g g' f : Nat → Int32} (h : mCon g f) (hg : ∀ q, 1 ≤ q → q < 32 → g' q = g q) : mCon g' f := by
  refine ⟨fun d hd => ?_, fun q h1 h2 => ?_⟩
  · rw [hg _ (by omega) (by omega)]; exact h.1 d hd
  · rw [hg _ h1 (by omega), hg _ (by omega) (by omega), hg _ (by omega) (by omega)]; exact h.2 q h1 h2
theorem mCon_things {g f f' : Nat → Int32} (h : mCon g f) (hf : ∀ d, d < 16 → f' d = f d) : mCon g f' := ⟨fun d hd => by rw [hf d hd]; exact h.1 d hd, h.2⟩
theorem mS_things {f f' : Nat → Int32} (hf : ∀ d, d < 16 → f' d = f d) {q : Nat} (h1 : 1 ≤ q) (h2 : q < 32) : mS f' q = mS f q := (mCon_S (mCon_things (mS_con f) hf) q h1 h2).symm
/-- what one step of the way up keeps: all places that aren't on the rest of the way fit -/
theorem mUpL_con (f : Nat → Int32) : ∀ (s q : Nat) (g : Nat → Int32), q < s → q < 16 → (∀ d, d < 16 → g (16 + d) = mLeaf (nI d) (f d)) → (∀ z, 1 ≤ z → z < 16 → (z = q ∨ z = q / 2 ∨ z = q / 4 ∨ z = q / 8) ∨ g z = mJoin (g (2 * z)) (g (2 * z + 1)) (nI z)) → mCon (mUpL s q g) f := by
  intro s
  induction s with
  | zero => intro q g h; omega
  | succ s ih =>
    intro q g hs hq hl hj
    by_cases h0 : q < 1
    · rw [mUpL, if_pos h0]
      refine ⟨hl, fun z h1 h2 => ?_⟩
      rcases hj z h1 h2 with h | h
      · omega
      · exact h
    · rw [mUpL, if_neg h0]
      refine ih (q / 2) _ (by omega) (by omega) (fun d hd => ?_) (fun z h1 h2 => ?_)
      · rw [upd_n _ _ (by omega)]; exact hl d hd
      · by_cases hz : z = q
        · subst hz
          refine Or.inr ?_
          rw [upd_s, upd_n _ _ (by omega), upd_n _ _ (by omega)]
        · rcases hj z h1 h2 with h | h
          · left; omega
          · by_cases h4 : z = q / 2
            · left; omega
            · right
              rw [upd_n _ _ hz, upd_n _ _ (by omega), upd_n _ _ (by omega)]
              exact h
theorem mCon_up {g f : Nat → Int32} (h : mCon g f) {d : Nat} (hd : d < 16) (t : Int32) : mCon (mSumUp g d t) (upd f d t) := by
  refine mUpL_con (upd f d t) 32 ((16 + d) / 2) _ (by omega) (by omega) (fun e he => ?_) (fun z h1 h2 => ?_)
  · by_cases hed : e = d
    · subst hed; rw [upd_s, upd_s]
    · rw [upd_n _ _ (by omega), upd_n _ _ hed]; exact h.1 e he
  · by_cases hz : z = (16 + d) / 2
    · left; omega
    · right
      rw [upd_n _ _ (by omega), upd_n _ _ (by omega), upd_n _ _ (by omega)]
      exact h.2 z h1 h2
def mExch (f : Nat → Int32) (a b : Nat) : Nat → Int32 := upd (upd f a (f b)) b (f a)
theorem mRws_con {g f : Nat → Int32} (h : mCon g f) {a b : Nat} (ha : a < 16) (hb : b < 16) : mCon (mRws g f a b) (mExch f a b) := mCon_up (mCon_up h ha _) hb _
theorem mRwt_con {g f : Nat → Int32} (h : mCon g f) {a b : Nat} (ha : a < 16) (hb : b < 16) : mCon (mRwt g f a b) f := by
  refine mCon_things (mCon_up (mCon_up (mRws_con h ha hb) ha (f a)) hb (f b)) (fun d hd => ?_)
  by_cases h2 : d = b
  · subst h2; rw [upd_s]
  · rw [upd_n _ _ h2]
    by_cases h1 : d = a
    · subst h1; rw [upd_s]
    · rw [upd_n _ _ h1]
      unfold mExch
      rw [upd_n _ _ h2, upd_n _ _ h1]
/-- what swapped answers, where the seal isn't kept -/
def mSwR (f : Nat → Int32) (x : Int32) (r : Int32) : Prop :=
  (∃ a b, a < b ∧ b < 16 ∧ mS (mExch f a b) 1 = x ∧ (∀ a' b', a' < b' → b' < 16 → (a' < a ∨ (a' = a ∧ b' < b)) → ¬ mS (mExch f a' b') 1 = x) ∧ r = nI (16 * a + b)) ∨ ((∀ a b, a < b → b < 16 → ¬ mS (mExch f a b) 1 = x) ∧ r = -1)
theorem mSwR_one {f : Nat → Int32} {x r r' : Int32} (h : mSwR f x r) (h' : mSwR f x r') : r = r' := by
  rcases h with ⟨a, b, h1, h2, h3, h4, h5⟩ | ⟨h1, h2⟩ <;> rcases h' with ⟨a', b', g1, g2, g3, g4, g5⟩ | ⟨g1, g2⟩
  · have e : a = a' ∧ b = b' := by
      rcases Nat.lt_trichotomy a a' with q | q | q
      · exact absurd h3 (g4 a b h1 h2 (Or.inl q))
      · rcases Nat.lt_trichotomy b b' with z | z | z
        · exact absurd h3 (g4 a b h1 h2 (Or.inr ⟨q, z⟩))
        · exact ⟨q, z⟩
        · exact absurd g3 (h4 a' b' g1 g2 (Or.inr ⟨q.symm, z⟩))
      · exact absurd g3 (h4 a' b' g1 g2 (Or.inl q))
    rw [h5, g5, e.1, e.2]
  · exact absurd h3 (g1 a b h1 h2)
  · exact absurd g3 (h1 a' b' g1 g2)
  · rw [h2, g2]
theorem mSwR_things {f f' : Nat → Int32} (hf : ∀ d, d < 16 → f' d = f d) {x r : Int32} (h : mSwR f x r) : mSwR f' x r := by
  have e : ∀ a b, a < b → b < 16 → mS (mExch f' a b) 1 = mS (mExch f a b) 1 := fun a b h1 h2 => mS_things (fun d hd => by
    unfold mExch
    by_cases q : d = b
    · subst q; rw [upd_s, upd_s]; exact hf a (by omega)
    · rw [upd_n _ _ q, upd_n _ _ q]
      by_cases z : d = a
      · subst z; rw [upd_s, upd_s]; exact hf b h2
      · rw [upd_n _ _ z, upd_n _ _ z]; exact hf d hd) (Nat.le_refl 1) (by decide)
  rcases h with ⟨a, b, h1, h2, h3, h4, h5⟩ | ⟨h1, h2⟩
  · exact Or.inl ⟨a, b, h1, h2, (e a b h1 h2).trans h3, fun a' b' q1 q2 q3 q4 => h4 a' b' q1 q2 q3 ((e a' b' q1 q2).symm.trans q4), h5⟩
  · exact Or.inr ⟨fun a b q1 q2 q3 => h1 a b q1 q2 ((e a b q1 q2).symm.trans q3), h2⟩
/-! ===== the mean ===== -/
def mTo1 (f : Nat → Int32) (x : Int32) : Nat → Int32
  | 0 => x
  | q + 1 => mTo1 f x q + f (q + 1)
def mTot (F : Nat → Nat → Int32) : Nat → Int32
  | 0 => nI 0
  | i + 1 => mTo1 (F i) (mTot F i) 31
theorem mv_div (x y : Int32) (h : y ≠ 0) : vf_n64 (FP.ddiv (FP.i2d x) (FP.i2d y)) := by
  have h1 : FP.Core.dIsNaN (FP.Core.i2d x) = false := by
    rw [FP.Core.notNaN_iff]; exact (FP.Core.i2d_fin x).ne_nan
  have h2 : ¬ FP.Core.DZero (FP.Core.i2d y) := by
    rw [FP.Core.zero_bits2]; exact FP.Core.i2d_ne_zero h
  have h3 := FP.Core.ddiv_out h1 (FP.Core.i2d_fin y) h2
  have h4 : ¬ 9218868437227405312 < (FP.ddiv (FP.i2d x) (FP.i2d y)).toNat % 2 ^ 63 := by
    intro h5
    have h6 := (FP.Core.isNaN_bits (FP.Core.ddiv (FP.Core.i2d x) (FP.Core.i2d y))).mpr h5
    rw [h3] at h6
    cases h6
  unfold vf_n64
  rw [UInt64.le_iff_toNat_le, UInt64.toNat_and]
  have e : (0x7fffffffffffffff : UInt64).toNat = 2 ^ 63 - 1 := by decide
  rw [e, Nat.and_two_pow_sub_one_eq_mod]
  have e2 : (0x7ff0000000000000 : UInt64).toNat = 9218868437227405312 := by decide
  rw [e2]
  omega
/-! ===== the checksum ===== -/