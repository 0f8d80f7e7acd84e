/-! ===== a row grows: names are given anew ===== -/
section RN
variable {G : va_G} {A : Nat → Prop} {H0 H : Heap} {locs : List Loc} {cy : Nat → ClassId} {ad ad' : Nat → Nat} {n k : Nat} {v u : Nat → Nat → Int32} {x o o' : mC}
theorem sy_adc (h : ∀ j, (j < 4 ∨ 100 ≤ j) → ad' j = ad j) (w : Nat) (g : Nat → Int32) : sy cy ad' n k o w g = sy cy ad n k o w g := by
  have e1 : (fun i => if i < n then some (ad' (100 + i)) else none) = (fun i => if i < n then some (ad (100 + i)) else none) := by
    funext i
    rw [h (100 + i) (by omega)]
  have e2 : (fun i => if i < k then some (ad' (400 + i)) else none) = (fun i => if i < k then some (ad (400 + i)) else none) := by
    funext i
    rw [h (400 + i) (by omega)]
  unfold sy
  simp only [mO0, mO1, mO2, mOc, e1, e2, h 1 (by decide), h 2 (by decide), h 3 (by decide), h (200 + (w - 100)) (by omega), h (300 + (w - 100)) (by omega)]
theorem S_adc (h : ∀ j, (j < 4 ∨ 100 ≤ j) → ad' j = ad j) : Sy cy ad n k v o = Sy cy ad' n k v o := by
  funext w
  exact (sy_adc h w (v w)).symm
theorem S_imp {j : Nat} {e : va_E} (h : 4 ≤ j → j < 100 → o j = some e → o' j = some e) (hj : Sy cy ad n k v o j = some e) : Sy cy ad n k v o' j = some e := by
  by_cases h1 : 4 ≤ j ∧ j < 100
  · rw [S_r h1.1 h1.2] at hj ⊢
    exact h h1.1 h1.2 hj
  · have e1 : sy cy ad n k o j (v j) = sy cy ad n k o' j (v j) := by
      unfold sy
      by_cases h0 : j < 4
      · rcases (show j = 0 ∨ j = 1 ∨ j = 2 ∨ j = 3 by omega) with rfl | rfl | rfl | rfl <;> rfl
      · rw [if_neg (show ¬ j < 100 by omega), if_neg (show ¬ j < 100 by omega)]
    exact e1.symm.trans hj
theorem S_none {j : Nat} (hn : n ≤ 6) (hk : k ≤ 20) (hj : 500 ≤ j) : Sy cy ad n k v o j = none := sy_none (by omega)
theorem R_things (hn : n < 6) (hk : k ≤ 20) (hx : ∀ w, w < 70 → x w = none) {g : Nat → Int32} (hE : mE G A H0 ad (mU (mU (Sy cy ad n k v (Si cy ad n k u (mU x (20 + n) (mI cy 16 g)))) 8 (mRR cy ad (n + 1) (n + 1) 20)) 4 (.inr (3, [.ref (ad 8), .ref (ad 6), .ref (ad 7)]))) H locs) : ∃ ad3 : Nat → Nat, (∀ j, j ≠ 5 → ad3 j = ad j) ∧ mE G A H0 ad3 (Sy cy ad3 n k v (Si cy ad3 (n + 1) k (va_up u (20 + n) g) x)) H locs := by
  have h3 : ∀ j, j ≠ 5 → va_up ad 5 (ad 8) j = ad j := fun j hj => va_up_n _ _ hj
  have h3s : va_up ad 5 (ad 8) 5 = ad 8 := va_up_s _ _ _
  generalize va_up ad 5 (ad 8) = ad3 at h3 h3s
  have hc : Sy cy ad3 n k v (Si cy ad3 (n + 1) k (va_up u (20 + n) g) x) = Sy cy ad n k v (Si cy ad3 (n + 1) k (va_up u (20 + n) g) x) := (S_adc (fun j hj => h3 j (by omega))).symm
  have n8 : Sy cy ad n k v (Si cy ad3 (n + 1) k (va_up u (20 + n) g) x) 8 = none := by rw [S_r (by decide) (by decide), Q_r (by unfold jIs; omega)]; exact hx 8 (by decide)
  have rr : ∀ z b, 20 ≤ b → mRR cy ad3 z z b = mRR cy ad z z b := fun z b hb => by
    have e : (fun i => if i < z then some (ad3 (b + i)) else none) = (fun i => if i < z then some (ad (b + i)) else none) := by
      funext i
      rw [h3 (b + i) (by omega)]
    rw [mRR, mRR, e]
  refine ⟨ad3, h3, ?_⟩
  rw [hc]
  refine mE_ren hE (fun j => if j = 5 then 8 else j) (fun j e hj => ?_) (fun a b ha hb hab => ?_) (fun j hj => S_none (by omega) hk hj)
  · by_cases j5 : j = 5
    · subst j5
      rw [S_r (by decide) (by decide)] at hj
      have hj : some (mRR cy ad3 (n + 1) (n + 1) 20) = some e := hj
      rw [rr _ _ (by decide)] at hj
      rw [if_pos rfl]
      exact ⟨by rw [mU_n _ _ (by decide), mU_s]; exact hj, h3s⟩
    · rw [if_neg j5]
      refine ⟨?_, h3 j j5⟩
      by_cases j8 : j = 8
      · subst j8
        rw [n8] at hj
        cases hj
      by_cases j4 : j = 4
      · subst j4
        rw [S_r (by decide) (by decide)] at hj
        have hj : some (mQ4 ad3) = some e := hj
        rw [mU_s, ← hj, mQ4, h3s, h3 6 (by decide), h3 7 (by decide)]
      rw [mU_n _ _ j4, mU_n _ _ j8]
      refine S_imp (fun h1 h2 hj => ?_) hj
      by_cases jr : j = 20 + n
      · subst jr
        rw [Q_r (by unfold jIs; omega), mU_s]
        rw [Q_t (by omega), va_up_s] at hj
        exact hj
      · have hu : va_up u (20 + n) g j = u j := va_up_n _ _ jr
        have hj : si cy ad3 (n + 1) k x j (va_up u (20 + n) g j) = some e := hj
        rw [hu] at hj
        show si cy ad n k (mU x (20 + n) (mI cy 16 g)) j (u j) = some e
        rw [← hj]
        unfold si
        rw [mU_n _ _ jr]
        rw [if_neg j4, if_neg j4]
        have a1 : (20 ≤ j ∧ j < 20 + n) = (20 ≤ j ∧ j < 20 + (n + 1)) := propext (by omega)
        have a2 : (40 ≤ j ∧ j < 40 + k) = (40 ≤ j ∧ j < 40 + k) := propext (by omega)
        simp only [a1, a2, if_neg j5, rr _ _ (show 20 ≤ 40 by decide), rr _ _ (Nat.le_refl 20)]
  · have hn8 : ∀ j, Sy cy ad n k v (Si cy ad3 (n + 1) k (va_up u (20 + n) g) x) j ≠ none → j ≠ 8 := fun j h1 h2 => h1 (by rw [h2]; exact n8)
    have ha8 := hn8 a ha
    have hb8 := hn8 b hb
    by_cases h1 : a = 5 <;> by_cases h2 : b = 5
    · omega
    · rw [if_pos h1, if_neg h2] at hab; omega
    · rw [if_neg h1, if_pos h2] at hab; omega
    · rw [if_neg h1, if_neg h2] at hab; exact hab
theorem R_seals (hn : n ≤ 6) (hk : k < 20) (hx : ∀ w, w < 70 → x w = none) {g : Nat → Int32} (hE : mE G A H0 ad (mU (mU (Sy cy ad n k v (Si cy ad n k u (mU x (40 + k) (mI cy 3 g)))) 8 (mRR cy ad (k + 1) (k + 1) 40)) 4 (.inr (3, [.ref (ad 5), .ref (ad 8), .ref (ad 7)]))) H locs) : ∃ ad3 : Nat → Nat, (∀ j, j ≠ 6 → ad3 j = ad j) ∧ mE G A H0 ad3 (Sy cy ad3 n k v (Si cy ad3 n (k + 1) (va_up u (40 + k) g) x)) H locs := by
  have h3 : ∀ j, j ≠ 6 → va_up ad 6 (ad 8) j = ad j := fun j hj => va_up_n _ _ hj
  have h3s : va_up ad 6 (ad 8) 6 = ad 8 := va_up_s _ _ _
  generalize va_up ad 6 (ad 8) = ad3 at h3 h3s
  have hc : Sy cy ad3 n k v (Si cy ad3 n (k + 1) (va_up u (40 + k) g) x) = Sy cy ad n k v (Si cy ad3 n (k + 1) (va_up u (40 + k) g) x) := (S_adc (fun j hj => h3 j (by omega))).symm
  have n8 : Sy cy ad n k v (Si cy ad3 n (k + 1) (va_up u (40 + k) g) x) 8 = none := by rw [S_r (by decide) (by decide), Q_r (by unfold jIs; omega)]; exact hx 8 (by decide)
  have rr : ∀ z b, 20 ≤ b → mRR cy ad3 z z b = mRR cy ad z z b := fun z b hb => by
    have e : (fun i => if i < z then some (ad3 (b + i)) else none) = (fun i => if i < z then some (ad (b + i)) else none) := by
      funext i
      rw [h3 (b + i) (by omega)]
    rw [mRR, mRR, e]
  refine ⟨ad3, h3, ?_⟩
  rw [hc]
  refine mE_ren hE (fun j => if j = 6 then 8 else j) (fun j e hj => ?_) (fun a b ha hb hab => ?_) (fun j hj => S_none hn (by omega) hj)
  · by_cases j5 : j = 6
    · subst j5
      rw [S_r (by decide) (by decide)] at hj
      have hj : some (mRR cy ad3 (k + 1) (k + 1) 40) = some e := hj
      rw [rr _ _ (by decide)] at hj
      rw [if_pos rfl]
      exact ⟨by rw [mU_n _ _ (by decide), mU_s]; exact hj, h3s⟩
    · rw [if_neg j5]
      refine ⟨?_, h3 j j5⟩
      by_cases j8 : j = 8
      · subst j8
        rw [n8] at hj
        cases hj
      by_cases j4 : j = 4
      · subst j4
        rw [S_r (by decide) (by decide)] at hj
        have hj : some (mQ4 ad3) = some e := hj
        rw [mU_s, ← hj, mQ4, h3 5 (by decide), h3s, h3 7 (by decide)]
      rw [mU_n _ _ j4, mU_n _ _ j8]
      refine S_imp (fun h1 h2 hj => ?_) hj
      by_cases jr : j = 40 + k
      · subst jr
        rw [Q_r (by unfold jIs; omega), mU_s]
        rw [Q_s hn (by omega), va_up_s] at hj
        exact hj
      · have hu : va_up u (40 + k) g j = u j := va_up_n _ _ jr
        have hj : si cy ad3 n (k + 1) x j (va_up u (40 + k) g j) = some e := hj
        rw [hu] at hj
        show si cy ad n k (mU x (40 + k) (mI cy 3 g)) j (u j) = some e
        rw [← hj]
        unfold si
        rw [mU_n _ _ jr]
        rw [if_neg j4, if_neg j4]
        have a1 : (20 ≤ j ∧ j < 20 + n) = (20 ≤ j ∧ j < 20 + n) := propext (by omega)
        have a2 : (40 ≤ j ∧ j < 40 + k) = (40 ≤ j ∧ j < 40 + (k + 1)) := propext (by omega)
        simp only [a1, a2, if_neg j5, rr _ _ (show 20 ≤ 40 by decide), rr _ _ (Nat.le_refl 20)]
  · have hn8 : ∀ j, Sy cy ad n k v (Si cy ad3 n (k + 1) (va_up u (40 + k) g) x) j ≠ none → j ≠ 8 := fun j h1 h2 => h1 (by rw [h2]; exact n8)
    have ha8 := hn8 a ha
    have hb8 := hn8 b hb
    by_cases h1 : a = 6 <;> by_cases h2 : b = 6
    · omega
    · rw [if_pos h1, if_neg h2] at hab; omega
    · rw [if_neg h1, if_pos h2] at hab; omega
    · rw [if_neg h1, if_neg h2] at hab; exact hab
end RN
