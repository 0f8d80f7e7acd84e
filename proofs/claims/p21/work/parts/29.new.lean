/-! ===== worlds that grow ===== -/
theorem mU_uu (M : mC) (k : Nat) (e e' : va_E) : mU (mU M k e) k e' = mU M k e' := va_upup M k (some e) (some e')
theorem mU_id {M : mC} {k : Nat} {e : va_E} (h : M k = some e) : mU M k e = M := by
  funext j
  show (if j = k then some e else M j) = M j
  by_cases hj : j = k
  · rw [if_pos hj, hj, h]
  · rw [if_neg hj]
section SGROW
variable {cy : Nat → ClassId} {ad ad' : Nat → Nat} {n k : Nat} {v : Nat → Nat → Int32} {o : mC}
theorem sy_none {g : Nat → Int32} {w : Nat} (h : 100 ≤ w ∧ ¬ (100 ≤ w ∧ w < 100 + n) ∧ ¬ (200 ≤ w ∧ w < 200 + n) ∧ ¬ (300 ≤ w ∧ w < 300 + n) ∧ ¬ (400 ≤ w ∧ w < 400 + k)) : sy cy ad n k o w g = none := by
  obtain ⟨h0, c1, c2, c3, c4⟩ := h
  unfold sy
  rw [if_neg (by omega), if_neg (by omega), if_neg (by omega), if_neg (by omega), if_neg (by omega), if_neg c1, if_neg c2, if_neg c3, if_neg c4]
theorem S_100 (hn : n ≤ 6) : Sy cy ad n k v o (100 + n) = none := sy_none (by refine ⟨by omega, ?_⟩; omega)
theorem S_200 (hn : n ≤ 6) : Sy cy ad n k v o (200 + n) = none := sy_none (by refine ⟨by omega, ?_⟩; omega)
theorem S_300 (hn : n ≤ 6) : Sy cy ad n k v o (300 + n) = none := sy_none (by refine ⟨by omega, ?_⟩; omega)
theorem S_400 (hn : n ≤ 6) : Sy cy ad n k v o (400 + k) = none := sy_none (by refine ⟨by omega, ?_⟩; omega)
/-- the names that are there -/
def mIs (n k w : Nat) : Prop := w < 100 ∨ (100 ≤ w ∧ w < 100 + n) ∨ (200 ≤ w ∧ w < 200 + n) ∨ (300 ≤ w ∧ w < 300 + n) ∨ (400 ≤ w ∧ w < 400 + k)
theorem sy_ad (h : ∀ j, mIs n k j → ad' j = ad j) (w : Nat) (g : Nat → Int32) : sy cy ad' n k o w g = sy cy ad n k o w g := by
  have hc : ∀ i, i < n → ad' (100 + i) = ad (100 + i) := fun i hi => h _ (by unfold mIs; omega)
  have hc2 : ∀ i, i < n → ad' (200 + i) = ad (200 + i) := fun i hi => h _ (by unfold mIs; omega)
  have hc3 : ∀ i, i < n → ad' (300 + i) = ad (300 + i) := fun i hi => h _ (by unfold mIs; omega)
  have hs : ∀ i, i < k → ad' (400 + i) = ad (400 + i) := fun i hi => h _ (by unfold mIs; omega)
  have e1 : (fun i => if i < n then some (ad' (100 + i)) else none) = (fun i => if i < n then some (ad (100 + i)) else none) := by
    funext i
    by_cases hi : i < n
    · rw [if_pos hi, if_pos hi, hc i hi]
    · rw [if_neg hi, if_neg hi]
  have e2 : (fun i => if i < k then some (ad' (400 + i)) else none) = (fun i => if i < k then some (ad (400 + i)) else none) := by
    funext i
    by_cases hi : i < k
    · rw [if_pos hi, if_pos hi, hs i hi]
    · rw [if_neg hi, if_neg hi]
  have a1 := h 1 (Or.inl (by decide))
  have a2 := h 2 (Or.inl (by decide))
  have a3 := h 3 (Or.inl (by decide))
  unfold sy
  simp only [mO0, mO1, mO2, e1, e2, a1, a2, a3]
  by_cases q : 100 ≤ w ∧ w < 100 + n
  · have b1 := hc2 (w - 100) (by omega)
    have b2 := hc3 (w - 100) (by omega)
    simp only [mOc, b1, b2]
  · simp only [if_neg q]
theorem S_ad (h : ∀ j, mIs n k j → ad' j = ad j) : Sy cy ad n k v o = Sy cy ad' n k v o := by
  funext w
  exact (sy_ad h w (v w)).symm
/-- what come leaves -/
def mVc (v : Nat → Nat → Int32) (n : Nat) (g : Nat → Int32) : Nat → Nat → Int32 := va_up (va_up (va_up v (100 + n) (fun _ => 0)) (200 + n) (fun _ => 0)) (300 + n) g
theorem mVc_n {g : Nat → Int32} {w : Nat} (h1 : w ≠ 100 + n) (h2 : w ≠ 200 + n) (h3 : w ≠ 300 + n) : mVc v n g w = v w := by
  unfold mVc
  rw [va_up_n _ _ h3, va_up_n _ _ h2, va_up_n _ _ h1]
theorem mVc_1 {g : Nat → Int32} : mVc v n g (100 + n) = fun _ => 0 := by
  unfold mVc
  rw [va_up_n _ _ (by omega), va_up_n _ _ (by omega), va_up_s]
theorem mVc_2 {g : Nat → Int32} : mVc v n g (200 + n) = fun _ => 0 := by
  unfold mVc
  rw [va_up_n _ _ (by omega), va_up_s]
theorem mVc_3 {g : Nat → Int32} : mVc v n g (300 + n) = g := by
  unfold mVc
  rw [va_up_s]
theorem S_come {M : mC} {g : Nat → Int32} (hn : n < 6) (m0 : M 0 = some (mO0 ad (n + 1) k)) (m1 : M 1 = some (mO1 cy ad (n + 1))) (mc : M (100 + n) = some (.inr (0, [.ref (ad (200 + n)), .ref (ad (300 + n)), .int 0]))) (mt : M (200 + n) = some (mI cy 16 (fun _ => 0))) (ms : M (300 + n) = some (mI cy 32 g)) (mr : ∀ j, j ≠ 0 → j ≠ 1 → j ≠ 100 + n → j ≠ 200 + n → j ≠ 300 + n → M j = Sy cy ad n k v o j) : M = Sy cy ad (n + 1) k (mVc v n g) o := by
  funext j
  by_cases h0 : j = 0
  · subst h0; rw [m0]; rfl
  by_cases h1 : j = 1
  · subst h1; rw [m1]; rfl
  by_cases h2 : j = 100 + n
  · subst h2
    rw [mc, S_ce (by omega) (by omega) mVc_1]
  by_cases h3 : j = 200 + n
  · subst h3
    rw [mt, S_te (by omega) (by omega) mVc_2]
  by_cases h4 : j = 300 + n
  · subst h4
    rw [ms, S_se (by omega) (by omega) mVc_3]
  rw [mr j h0 h1 h2 h3 h4]
  show sy cy ad n k o j (v j) = sy cy ad (n + 1) k o j (mVc v n g j)
  rw [mVc_n h2 h3 h4]
  unfold sy
  have e1 : (100 ≤ j ∧ j < 100 + n) = (100 ≤ j ∧ j < 100 + (n + 1)) := propext (by omega)
  have e2 : (200 ≤ j ∧ j < 200 + n) = (200 ≤ j ∧ j < 200 + (n + 1)) := propext (by omega)
  have e3 : (300 ≤ j ∧ j < 300 + n) = (300 ≤ j ∧ j < 300 + (n + 1)) := propext (by omega)
  simp only [if_neg h0, if_neg h1, e1, e2, e3]
/-- what seal leaves -/
def mV3 (a b c : Int32) : Nat → Int32 := fun x => if x = 0 then a else if x = 1 then b else c
theorem S_seal {M : mC} {a b c : Int32} (hn : n ≤ 6) (hk : k < 20) (m0 : M 0 = some (mO0 ad n (k + 1))) (m2 : M 2 = some (mO2 cy ad (k + 1))) (ms : M (400 + k) = some (.inr (1, [.int a, .int b, .int c]))) (mr : ∀ j, j ≠ 0 → j ≠ 2 → j ≠ 400 + k → M j = Sy cy ad n k v o j) : M = Sy cy ad n (k + 1) (va_up v (400 + k) (mV3 a b c)) o := by
  funext j
  by_cases h0 : j = 0
  · subst h0; rw [m0]; rfl
  by_cases h1 : j = 2
  · subst h1; rw [m2]; rfl
  by_cases h2 : j = 400 + k
  · subst h2
    rw [ms, S_soe hn (by omega) (va_up_s _ _ _)]
    rfl
  rw [mr j h0 h1 h2]
  show sy cy ad n k o j (v j) = sy cy ad n (k + 1) o j (va_up v (400 + k) (mV3 a b c) j)
  rw [va_up_n _ _ h2]
  unfold sy
  have e1 : (400 ≤ j ∧ j < 400 + k) = (400 ≤ j ∧ j < 400 + (k + 1)) := propext (by omega)
  simp only [if_neg h0, if_neg h1, e1]
theorem mO1_up (n : Nat) : va_up (fun i => if i < n then some (ad (100 + i)) else none) n (some (ad (100 + n))) = (fun i => if i < n + 1 then some (ad (100 + i)) else none) := by
  funext i
  by_cases h : i = n
  · subst h; rw [va_up_s, if_pos (by omega)]
  · rw [va_up_n _ _ h]
    by_cases h2 : i < n
    · rw [if_pos h2, if_pos (by omega)]
    · rw [if_neg h2, if_neg (by omega)]
theorem mO2_up (n : Nat) : va_up (fun i => if i < n then some (ad (400 + i)) else none) n (some (ad (400 + n))) = (fun i => if i < n + 1 then some (ad (400 + i)) else none) := by
  funext i
  by_cases h : i = n
  · subst h; rw [va_up_s, if_pos (by omega)]
  · rw [va_up_n _ _ h]
    by_cases h2 : i < n
    · rw [if_pos h2, if_pos (by omega)]
    · rw [if_neg h2, if_neg (by omega)]
end SGROW
