/-! ===== the answers, class and reference ===== -/
theorem mi_or1 (x : Int32) : (∃ q, (1 ≤ q ∧ q ≤ 31) ∧ x = nI q) ∨ (x < nI 1 ∨ nI 31 < x) := by
  by_cases h1 : x < nI 1
  · exact Or.inr (Or.inl h1)
  by_cases h2 : nI 31 < x
  · exact Or.inr (Or.inr h2)
  rw [Int32.lt_iff_toInt_lt, nI_toInt (by decide)] at h1
  rw [Int32.lt_iff_toInt_lt, nI_toInt (by decide)] at h2
  refine Or.inl ⟨x.toInt.toNat, by omega, ?_⟩
  apply Int32.toInt_inj.mp
  rw [nI_toInt (by omega)]
  omega
theorem mPvl {P P2 : Prop} [Decidable P] [Decidable P2] (h : P ↔ P2) : (if P then (1 : Int64) else 0) = (if mb P2 = 0 then (0 : Int64) else 1) := by
  by_cases hp : P
  · rw [if_pos hp, mb_t (h.mp hp), if_neg (by decide)]
  · rw [if_neg hp, mb_f (fun h2 => hp (h.mpr h2)), if_pos rfl]
section MANS
variable {n k : Nat} {v v2 w : Nat → Nat → Int32} {cs : Nat → Nat} {g : Nat → Int32} {i d : Nat} {t : Int32}
theorem mInv_come (h : mInv n k v cs) (hn : n < 6) (hg : mCon g (fun _ => 0)) (hq : (∀ w, w ≠ 4 → v2 w = mVc v n g w) ∧ v2 4 0 = nI 0 ∧ v2 4 1 = nI (n + 1) ∧ v2 4 2 = mVc v n g 4 2) : mInv (n + 1) k v2 cs := by
  have hc : ∀ z, z ≠ 100 + n → z ≠ 200 + n → z ≠ 300 + n → mVc v n g z = v z := fun z a b c => mVc_n a b c
  refine mInv_mk (w := mVc v n g) (f5 := v 5) (f6 := v 6) (f7 := v 7) (f8 := v 8) (f9 := v 9) (by omega) h.2.1 hq.2.2.1 (hq.2.2.2.trans ((congrFun (hc 4 (by omega) (by omega) (by omega)) 2).trans h.2.2.2.1)) (fun z hz => hq.1 z (by omega))
    ((hq.1 5 (by decide)).trans (hc 5 (by omega) (by omega) (by omega))) ((hq.1 6 (by decide)).trans (hc 6 (by omega) (by omega) (by omega))) ((hq.1 7 (by decide)).trans (hc 7 (by omega) (by omega) (by omega))) ((hq.1 8 (by decide)).trans (hc 8 (by omega) (by omega) (by omega))) ((hq.1 9 (by decide)).trans (hc 9 (by omega) (by omega) (by omega))) ?_ ?_ ?_
  · intro i hi
    by_cases hin : i = n
    · subst hin
      rw [mVc_1, mVc_2, mVc_3]
      exact ⟨fun d hd => ((mInv_emp h i (Nat.le_refl _) hn).2 d hd).symm, (mInv_emp h i (Nat.le_refl _) hn).1.symm, hg⟩
    · rw [hc (200 + i) (by omega) (by omega) (by omega), hc (100 + i) (by omega) (by omega) (by omega), hc (300 + i) (by omega) (by omega) (by omega)]
      exact mInv_rel h i (by omega)
  · intro j hj
    rw [hc (400 + j) (by omega) (by omega) (by omega)]
    obtain ⟨a, b⟩ := mInv_sel h j hj
    exact ⟨by omega, b⟩
  · exact fun z h1 h2 => mInv_emp h z (by omega) h2
theorem mInv_seal (h : mInv n k v cs) (hi : i < n) (hk : k < 20) (hq : (∀ w, w ≠ 4 → w ≠ 7 → w ≠ 8 → w ≠ 9 → w ≠ 10 → w ≠ 11 → v2 w = va_up v (400 + k) (mV3 (nI i) (v (300 + i) 1) (v (100 + i) 2)) w) ∧ v2 4 0 = nI 0 ∧ v2 4 1 = va_up v (400 + k) (mV3 (nI i) (v (300 + i) 1) (v (100 + i) 2)) 4 1 ∧ v2 4 2 = nI (k + 1) ∧ v2 7 = upd (v 7) k (nI i) ∧ v2 8 = upd (v 8) k (mS (fun d => v 5 (16 * i + d)) 1) ∧ v2 9 = upd (v 9) k (v 6 i)) : mInv n (k + 1) v2 (fun j => if j = k then i else cs j) := by
  obtain ⟨q1, q2, q3, q4, q7, q8, q9⟩ := hq
  have hc : ∀ z, z ≠ 400 + k → va_up v (400 + k) (mV3 (nI i) (v (300 + i) 1) (v (100 + i) 2)) z = v z := fun z a => va_up_n v _ a
  refine mInv_mk (w := va_up v (400 + k) (mV3 (nI i) (v (300 + i) 1) (v (100 + i) 2))) (f5 := v 5) (f6 := v 6) h.1 (by omega) (q3.trans ((congrFun (hc 4 (by omega)) 1).trans h.2.2.1)) q4 (fun z hz => q1 z (by omega) (by omega) (by omega) (by omega) (by omega) (by omega))
    ((q1 5 (by decide) (by decide) (by decide) (by decide) (by decide) (by decide)).trans (hc 5 (by omega))) ((q1 6 (by decide) (by decide) (by decide) (by decide) (by decide) (by decide)).trans (hc 6 (by omega))) q7 q8 q9 ?_ ?_ (mInv_emp h)
  · intro z hz
    have := h.1
    rw [hc (200 + z) (by omega), hc (100 + z) (by omega), hc (300 + z) (by omega)]
    exact mInv_rel h z hz
  · intro j hj
    dsimp only
    by_cases hjk : j = k
    · subst hjk
      rw [va_up_s, upd_s, upd_s, upd_s]
      refine ⟨by rw [if_pos rfl]; exact hi, by rw [if_pos rfl], by rw [if_pos rfl]; rfl, ?_, ?_⟩
      · exact mRel_S (mInv_rel h) hi 1 (by decide) (by decide)
      · exact (mInv_rel h i hi).2.1
    · rw [hc (400 + j) (by omega), upd_n _ _ hjk, upd_n _ _ hjk, upd_n _ _ hjk, if_neg hjk]
      exact mInv_sel h j (by omega)
def mt_bs (z : Nat) : Nat → Nat
  | 0 => 0
  | t + 1 => mt_bs z t + mt_b z t
theorem mMeN_bits (f : Nat → Int32) {a b z : Nat} (hz : ∀ t, t < 16 → z / 2 ^ t % 2 = 1 → ¬ f (16 * b + t) = f (16 * a + t)) : ∀ t, t ≤ 16 → mMeN f a b z t = mt_bs z t := by
  intro t
  induction t with
  | zero => intro _; rfl
  | succ t ih =>
    intro ht
    show mMeN f a b z t + (if z / 2 ^ t % 2 = 1 ∧ ¬ mMe5 f a b z t (16 * b + t) = mMe5 f a b z t (16 * a + t) then 1 else 0) = mt_bs z t + mt_b z t
    rw [ih (by omega), mt_bd]
    by_cases hb : z / 2 ^ t % 2 = 1
    · have hne := hz t (by omega) hb
      have hab : ¬ a = b := fun h9 => hne (by rw [h9])
      rw [if_pos ⟨hb, by rw [mMe5_at f a b z t _ (by omega) (fun e he => by omega), mMe5_at f a b z t _ (by omega) (fun e he => by omega)]; exact hne⟩, hb]
    · rw [if_neg (fun h9 => hb h9.1)]
      omega
theorem mMend_ans (h : mInv n k v cs) {a b : Nat} (ha : a < n) (hb : b < n) : mBc (nI (mDr (mLook (v (300 + a)) (v (300 + b)) 15) (v (300 + a)) (v (300 + b)) 16)) = nI (mMeN (v 5) a b (mCm (mS (fun d => v 5 (16 * a + d))) (mS (fun d => v 5 (16 * b + d))) 4 1) 16) := by
  rw [mDf_ans h ha hb]
  have hlt := mCm_lt (mS (fun d => v 5 (16 * a + d))) (mS (fun d => v 5 (16 * b + d))) 4 1 (by decide) (by decide) (by decide)
  have hbit : ∀ t, t < 16 → mCm (mS (fun d => v 5 (16 * a + d))) (mS (fun d => v 5 (16 * b + d))) 4 1 / 2 ^ t % 2 = 1 → ¬ v 5 (16 * b + t) = v 5 (16 * a + t) := by
    intro t ht h1 h2
    have h3 := (mt_cm (f := mS (fun d => v 5 (16 * a + d))) (g := mS (fun d => v 5 (16 * b + d))) 4 1 t ht (by decide) (by decide)).mp (by rw [Nat.testBit_eq_decide_div_mod_eq, decide_eq_true h1])
    refine h3.2 0 (by decide) ?_
    rw [Nat.pow_zero, Nat.div_one, mS_leaf, mS_leaf, h2]
  generalize mCm (mS (fun d => v 5 (16 * a + d))) (mS (fun d => v 5 (16 * b + d))) 4 1 = z at *
  rw [mMeN_bits (v 5) hbit 16 (Nat.le_refl _), mt_bc (by omega)]
  have hz : ∀ q, 16 ≤ q → mt_b z q = 0 := fun q hq => by
    rw [mt_bd, Nat.div_eq_of_lt (Nat.lt_of_lt_of_le hlt (Nat.pow_le_pow_right (by decide) hq))]
  rw [hz 16 (by decide), hz 17 (by decide), hz 18 (by decide), hz 19 (by decide), hz 20 (by decide), hz 21 (by decide), hz 22 (by decide), hz 23 (by decide), hz 24 (by decide), hz 25 (by decide), hz 26 (by decide), hz 27 (by decide), hz 28 (by decide), hz 29 (by decide), hz 30 (by decide), hz 31 (by decide)]
  refine congrArg nI ?_
  show _ = 0 + mt_b z 0 + mt_b z 1 + mt_b z 2 + mt_b z 3 + mt_b z 4 + mt_b z 5 + mt_b z 6 + mt_b z 7 + mt_b z 8 + mt_b z 9 + mt_b z 10 + mt_b z 11 + mt_b z 12 + mt_b z 13 + mt_b z 14 + mt_b z 15
  omega
end MANS
