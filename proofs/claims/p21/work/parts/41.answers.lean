/-! ===== mend's answers ===== -/
def jBs (z : Nat) : Nat → Nat
  | 0 => 0
  | t + 1 => jBs z t + z / 2 ^ t % 2
section JA
variable {n k : Nat} {v u : Nat → Nat → Int32} {C cs ms : Nat → Nat} {T : Nat} {i d a b : Nat} {t : Int32}
theorem jBc {z : Nat} (hlt : z < 2 ^ 16) : mBc (nI z) = nI (jBs z 16) := by
  rw [mt_bc (by omega)]
  have hz : ∀ q, 16 ≤ q → mt_b z q = 0 := fun q hq => by
    rw [mt_bd, Nat.div_eq_of_lt (Nat.lt_of_lt_of_le hlt (Nat.pow_le_pow_right (by decide) hq))]
  rw [hz 16 (by decide), hz 17 (by decide), hz 18 (by decide), hz 19 (by decide), hz 20 (by decide), hz 21 (by decide), hz 22 (by decide), hz 23 (by decide), hz 24 (by decide), hz 25 (by decide), hz 26 (by decide), hz 27 (by decide), hz 28 (by decide), hz 29 (by decide), hz 30 (by decide), hz 31 (by decide)]
  simp only [mt_bd]
  refine congrArg nI ?_
  show _ = 0 + z / 2 ^ 0 % 2 + z / 2 ^ 1 % 2 + z / 2 ^ 2 % 2 + z / 2 ^ 3 % 2 + z / 2 ^ 4 % 2 + z / 2 ^ 5 % 2 + z / 2 ^ 6 % 2 + z / 2 ^ 7 % 2 + z / 2 ^ 8 % 2 + z / 2 ^ 9 % 2 + z / 2 ^ 10 % 2 + z / 2 ^ 11 % 2 + z / 2 ^ 12 % 2 + z / 2 ^ 13 % 2 + z / 2 ^ 14 % 2 + z / 2 ^ 15 % 2
  omega
theorem jBs_le (z : Nat) : ∀ t, jBs z t ≤ t := by
  intro t
  induction t with
  | zero => exact Nat.le_refl _
  | succ t ih => simp only [jBs]; omega
theorem jZ_eq (h : jV n k v u C cs ms T) (ha : a < n) (hb : b < n) : mDr (mLook (v (300 + a)) (v (300 + b)) 15) (v (300 + a)) (v (300 + b)) 16 = jCmp (mS (u (20 + a))) (mS (u (20 + b))) 4 1 % 65536 := by
  rw [mt_differ, jCmp_mod]
  exact (mCm_eq (jV_S h ha) (jV_S h hb) 4 1 (by decide) (by decide) (by decide)).1
theorem jMend_at (u : Nat → Nat → Int32) (a b z : Nat) (hb : b < 6) {c : Nat} (hc : c < 6) : ∀ t x, t ≤ x → jMend u a b z t (20 + c) x = u (20 + c) x := by
  intro t
  induction t with
  | zero => intro x _; rfl
  | succ t ih =>
    intro x hx
    simp only [jMend]
    split
    · unfold jPut
      split
      · exact ih x (by omega)
      · by_cases hcb : c = b
        · subst hcb
          rw [jPut1_t hc, upd_n _ _ (by omega)]
          exact ih x (by omega)
        · rw [jPut1_n (by omega) (by omega)]
          exact ih x (by omega)
    · exact ih x (by omega)
theorem jMen_bits (u : Nat → Nat → Int32) {a b z : Nat} (ha : a < 6) (hb : b < 6) (hz : ∀ t, t < 16 → z / 2 ^ t % 2 = 1 → ¬ u (20 + b) t = u (20 + a) t) : ∀ t, t ≤ 16 → jMen u a b z t = jBs z t := by
  intro t
  induction t with
  | zero => intro _; rfl
  | succ t ih =>
    intro ht
    simp only [jMen, jBs]
    rw [jMend_at u a b z hb hb t t (Nat.le_refl _), jMend_at u a b z hb ha t t (Nat.le_refl _), ih (by omega)]
    by_cases hbt : z / 2 ^ t % 2 = 1
    · rw [if_pos ⟨hbt, hz t (by omega) hbt⟩, hbt]
    · rw [if_neg (fun h9 => hbt h9.1)]
      omega
theorem jMen_ans (h : jV n k v u C cs ms T) (ha : a < n) (hb : b < n) : mBc (nI (mDr (mLook (v (300 + a)) (v (300 + b)) 15) (v (300 + a)) (v (300 + b)) 16)) = nI (jMen u a b (mDr (mLook (v (300 + a)) (v (300 + b)) 15) (v (300 + a)) (v (300 + b)) 16) 16) := by
  have hn := h.1
  have hbit : ∀ t, t < 16 → mDr (mLook (v (300 + a)) (v (300 + b)) 15) (v (300 + a)) (v (300 + b)) 16 / 2 ^ t % 2 = 1 → ¬ u (20 + b) t = u (20 + a) t := by
    intro t ht h1 h2
    rw [mt_differ] at h1
    have h3 := (mt_cm (f := v (300 + a)) (g := v (300 + b)) 4 1 t ht (by decide) (by decide)).mp (by rw [Nat.testBit_eq_decide_div_mod_eq, decide_eq_true h1])
    refine h3.2 0 (by decide) ?_
    rw [Nat.pow_zero, Nat.div_one, (jV_c h ha).1 t ht, (jV_c h hb).1 t ht, ← jV_u h ha ht, ← jV_u h hb ht, h2]
  rw [jBc (mDr_lt _ _ _ 16 (by decide)), jMen_bits u (by omega) (by omega) hbit 16 (Nat.le_refl _)]
theorem jLay_t (x : Nat) : mLay v i d t (200 + i) x = if x = d then t else v (200 + i) x := by
  unfold mLay
  split
  · next h =>
    by_cases e : x = d
    · rw [if_pos e, e]; exact h
    · rw [if_neg e]
  · rw [jLay1_2]
    by_cases e : x = d
    · rw [if_pos e, e, upd_s]
    · rw [if_neg e, upd_n _ _ e]
theorem jMended (v : Nat → Nat → Int32) {a b z : Nat} (ha : a < 6) (hb : b < 6) : ∀ t, ∀ x, x < t → z / 2 ^ x % 2 = 1 → mMend v a b z t (200 + b) x = mMend v a b z t (200 + a) x := by
  by_cases hab : a = b
  · subst hab; intro t x _ _; rfl
  intro t
  induction t with
  | zero => intro x hx; omega
  | succ t ih =>
    intro x hx hz
    simp only [mMend]
    split
    · next ht =>
      rw [jLay_t, mLay_ne _ _ _ _ (by omega) (by omega) (by omega)]
      by_cases e : x = t
      · rw [if_pos e, e]
      · rw [if_neg e]; exact ih x (by omega) hz
    · next ht =>
      refine ih x ?_ hz
      by_cases e : x = t
      · rw [e] at hz; exact absurd hz ht
      · omega
end JA
