/-! ===== what the law itself reckons ===== -/
abbrev lA (s : State) : Nat → Prop := fun q => s.heap.size ≤ q
/-- what the seals told, laid by -/
def jWas (cy : Nat → ClassId) (ad : Nat → Nat) (k : Nat) (g : Nat → Nat → Int32) : mC := fun j => if j = 70 then some (mRR cy ad k k 71) else if 70 < j ∧ j < 71 + k then some (mI cy 3 (g (j - 71))) else none
section JW
variable {cy : Nat → ClassId} {ad ad' : Nat → Nat} {n k i w : Nat} {v u : Nat → Nat → Int32} {g : Nat → Nat → Int32} {x x' : mC}
theorem jWas_70 : jWas cy ad k g 70 = some (mRR cy ad k k 71) := if_pos rfl
theorem jWas_r (hi : i < k) : jWas cy ad k g (71 + i) = some (mI cy 3 (g i)) := by
  unfold jWas
  rw [if_neg (by omega), if_pos (by omega), Nat.add_sub_cancel_left]
theorem jWas_lo (h : w < 70) : jWas cy ad k g w = none := by
  unfold jWas
  rw [if_neg (by omega), if_neg (by omega)]
theorem jWas_at (hi : i < k) : (fun i => if i < k then some (ad (71 + i)) else none) i = some (ad (71 + i)) := if_pos hi
theorem jWas_up {g' : Nat → Int32} (hi : i < k) : mU (jWas cy ad k g) (71 + i) (mI cy 3 g') = jWas cy ad k (va_up g i g') := by
  funext j
  by_cases hj : j = 71 + i
  · subst hj
    rw [mU_s, jWas_r hi, va_up_s]
  · rw [mU_n _ _ hj]
    unfold jWas
    by_cases h0 : j = 70
    · rw [if_pos h0, if_pos h0]
    · rw [if_neg h0, if_neg h0]
      by_cases h1 : 70 < j ∧ j < 71 + k
      · rw [if_pos h1, if_pos h1, va_up_n _ _ (by omega)]
      · rw [if_neg h1, if_neg h1]
theorem jWas_ad (h : ∀ j, 70 ≤ j → j < 100 → ad' j = ad j) (hk : k ≤ 20) : jWas cy ad k g = jWas cy ad' k g := by
  have e : (fun i => if i < k then some (ad (71 + i)) else none) = (fun i => if i < k then some (ad' (71 + i)) else none) := by
    funext i
    by_cases hi : i < k
    · rw [if_pos hi, if_pos hi, h _ (by omega) (by omega)]
    · rw [if_neg hi, if_neg hi]
  unfold jWas mRR
  rw [e]
theorem Si_x {j : Nat} (h : x j = x' j) : Si cy ad n k u x j = Si cy ad n k u x' j := by
  show si cy ad n k x j (u j) = si cy ad n k x' j (u j)
  unfold si
  rw [h]
theorem Sy_x {j : Nat} (h : x j = x' j) : Sy cy ad n k v x j = Sy cy ad n k v x' j := by
  show sy cy ad n k x j (v j) = sy cy ad n k x' j (v j)
  unfold sy
  rw [h]
theorem jWas_mm {ad1 : Nat → Nat} (hn : n ≤ 6) (hk : k ≤ 20) (ha : ∀ j, j < 70 ∨ 71 + k ≤ j → ad1 j = ad j) : jMm cy ad1 (Sy cy ad n k v (Si cy ad n k u jN0)) 70 k = Sy cy ad1 n k v (Si cy ad1 n k u (jWas cy ad1 k (fun _ _ => 0))) := by
  have e : Sy cy ad n k v (Si cy ad n k u jN0) = Sy cy ad1 n k v (Si cy ad1 n k u jN0) := by
    rw [Q_ad (ad' := ad1) (fun j hj => ha j (by unfold jIs at hj; omega)), S_adc (ad' := ad1) (fun j hj => ha j (by omega))]
  rw [e]
  funext j
  unfold jMm
  by_cases h0 : j = 70
  · subst h0
    rw [if_pos rfl, S_r (by decide) (by decide), Q_r (by unfold jIs; omega), jWas_70]
  · rw [if_neg h0]
    by_cases h1 : 70 < j ∧ j < 70 + 1 + k
    · rw [if_pos h1, S_r (by omega) (by omega), Q_r (by unfold jIs; omega)]
      obtain ⟨i, rfl⟩ : ∃ i, j = 71 + i := ⟨j - 71, by omega⟩
      rw [jWas_r (by omega)]
    · rw [if_neg h1]
      refine Sy_x (Si_x ?_)
      unfold jWas
      rw [if_neg h0, if_neg (by omega)]
theorem jWas_drop {G : va_G} {A : Nat → Prop} {H0 H : Heap} {locs : List Loc} {k0 : Nat} (hk0 : k0 ≤ 20) (hn : n ≤ 6) (hk : k ≤ 20) (hE : mE G A H0 ad (Sy cy ad n k v (Si cy ad n k u (jWas cy ad k0 g))) H locs) : mE G A H0 ad (Sy cy ad n k v (Si cy ad n k u jN0)) H locs :=
  mE_drop hE (fun j e hj => S_imp (fun _ _ h9 => by
    by_cases hi : jIs n k j
    · rw [Si_x (x' := jWas cy ad k0 g) (by show none = jWas cy ad k0 g j; unfold jWas; unfold jIs at hi; rw [if_neg (by omega), if_neg (by omega)])] at h9
      exact h9
    · rw [Q_r hi] at h9
      cases h9) hj)
end JW
/-! changes of all -/
def jSum (C : Nat → Nat) : Nat → Nat
  | 0 => 0
  | i + 1 => jSum C i + C i
section JS
variable {n k n' k' : Nat} {v u v' u' : Nat → Nat → Int32} {C cs ms C' cs' ms' : Nat → Nat} {T j a b d w : Nat}
theorem jChs (h : jV n k v u C cs ms T) : ∀ i, i ≤ n → mChs v i = nI (jSum C i) := by
  intro i
  induction i with
  | zero => intro _; rfl
  | succ i ih =>
    intro hi
    show mChs v i + v (100 + i) 2 = nI (jSum C i + C i)
    rw [ih (by omega), (h.2.2.1 i (by omega)).2.2.2.2.1, nI_add]
theorem jSum_le (h : jV n k v u C cs ms T) : ∀ i, i ≤ n → jSum C i ≤ i * T := by
  intro i
  induction i with
  | zero => intro _; exact Nat.zero_le _
  | succ i ih =>
    intro hi
    have h1 := ih (by omega)
    have h2 := (h.2.2.1 i (by omega)).2.2.2.2.2
    rw [Nat.add_mul, Nat.one_mul]
    show jSum C i + C i ≤ _
    omega
theorem jSum_bd (h : jV n k v u C cs ms T) (hT : T ≤ 100000) : jSum C n ≤ 600000 := by
  have h1 := jSum_le h n (Nat.le_refl _)
  have h2 : n * T ≤ 6 * 100000 := Nat.mul_le_mul h.1 hT
  omega
theorem jSum_mono : ∀ n n', n ≤ n' → (∀ i, i < n → C i ≤ C' i) → jSum C n ≤ jSum C' n' := by
  have h0 : ∀ n, (∀ i, i < n → C i ≤ C' i) → jSum C n ≤ jSum C' n := by
    intro n
    induction n with
    | zero => intro _; exact Nat.le_refl _
    | succ n ih =>
      intro h
      have h1 := ih (fun i hi => h i (by omega))
      have h2 := h n (by omega)
      show jSum C n + C n ≤ jSum C' n + C' n
      omega
  have h1 : ∀ n z, jSum C' n ≤ jSum C' (n + z) := by
    intro n z
    induction z with
    | zero => exact Nat.le_refl _
    | succ z ih => exact Nat.le_trans ih (Nat.le_add_right _ _)
  intro n n' hn h
  have h2 := h1 n (n' - n)
  rw [show n + (n' - n) = n' by omega] at h2
  exact Nat.le_trans (h0 n h) h2
/-- the first three numbers that a seal tells -/
theorem jAb3 (h : jV n k v u C cs ms T) (hj : j < k) (hw : w < 3) : mAbout v j (cs j) w = v (400 + j) w := by
  rcases (show w = 0 ∨ w = 1 ∨ w = 2 by omega) with rfl | rfl | rfl
  · exact (jV_0 h hj).symm
  · rfl
  · rfl
theorem jLe_rf (hn : 1 ≤ n) : jLe n k v C n k v C := ⟨Nat.le_refl _, hn, Nat.le_refl _, fun _ _ => Nat.le_refl _, fun _ _ => rfl⟩
/-! what is found, and where it is looked -/
theorem jDf (h : jV n k v u C cs ms T) (ha : a < n) (hb : b < n) : mDr (mLook (v (300 + b)) (v (300 + a)) 15) (v (300 + b)) (v (300 + a)) 16 = mDr (mLook (v (300 + a)) (v (300 + b)) 15) (v (300 + a)) (v (300 + b)) 16 := by
  rw [mt_differ, mt_differ]
  exact (jCm_sym _ _ 4 1).1
theorem jLk (f g : Nat → Int32) : mBc (nI (mLook f g 15)) = nI (mCl f g 4 1) := mt_looks f g
theorem jLk_s (f g : Nat → Int32) : mCl f g 4 1 = mCl g f 4 1 := (jCm_sym f g 4 1).2
theorem jLk_o (f g : Nat → Int32) : mCl f g 4 1 % 2 = 1 ∧ mCl f g 4 1 ≤ 31 := by
  obtain ⟨h1, h2⟩ := jCl_odd f g 4 1
  exact ⟨h1, by have : (2:Nat) ^ (4 + 1) = 32 := rfl; omega⟩
theorem jZ_0 (h : jV n k v u C cs ms T) (ha : a < n) (hb : b < n) : mDr (mLook (v (300 + a)) (v (300 + b)) 15) (v (300 + a)) (v (300 + b)) 16 = 0 ↔ v (300 + a) 1 = v (300 + b) 1 := by
  rw [mt_differ]
  exact jCm_iff (jV_c h ha) (jV_c h hb)
theorem jZ_b (h : jV n k v u C cs ms T) (ha : a < n) (hb : b < n) (hd : d < 16) : jDo (v (300 + a)) (v (300 + b)) d 5 = true ↔ mDr (mLook (v (300 + a)) (v (300 + b)) 15) (v (300 + a)) (v (300 + b)) 16 / 2 ^ d % 2 = 1 := by
  rw [mt_differ]
  exact jDo_bit _ _ hd
theorem jUp_1 : ∀ d, d < 16 → ∀ t, t ≤ 5 → (16 + d) / 2 ^ t < 32 ∧ (t ≤ 4 → 1 ≤ (16 + d) / 2 ^ t) ∧ (t = 5 → (16 + d) / 2 ^ t = 0) := by decide +kernel
theorem jBs_mono (z : Nat) : ∀ t s, t ≤ s → jBs z t ≤ jBs z s := by
  intro t s h
  obtain ⟨r, rfl⟩ : ∃ r, s = t + r := ⟨s - t, by omega⟩
  clear h
  induction r with
  | zero => exact Nat.le_refl _
  | succ r ih => exact Nat.le_trans ih (Nat.le_add_right _ _)
theorem jBs_16 (z : Nat) {t : Nat} (ht : t < 16) : jBs z t + z / 2 ^ t % 2 ≤ jBs z 16 := jBs_mono z (t + 1) 16 (by omega)
theorem jZ_lt (v : Nat → Nat → Int32) (a b : Nat) : mDr (mLook (v (300 + a)) (v (300 + b)) 15) (v (300 + a)) (v (300 + b)) 16 < 2 ^ 16 := mDr_lt _ _ _ 16 (by decide)
/-- kept without change -/
theorem jKept (h : jV n k v u C cs ms T) (hj : j < k) (hT : T ≤ 100000) (h0 : v (100 + cs j) 2 - v (400 + j) 2 = 0) : v (300 + cs j) 1 = v (400 + j) 1 := by
  obtain ⟨b1, b2, b3, b4, b5, b6⟩ := h.2.2.2.2 j hj
  obtain ⟨-, -, -, -, a5, a6⟩ := h.2.2.1 _ b1
  rw [a5, b3, pk_sub b5] at h0
  exact b6 (by have := (mz_eq (by omega)).mp h0; omega)
end JS
