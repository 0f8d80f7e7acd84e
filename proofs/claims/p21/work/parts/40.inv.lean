/-! ===== the class and the law's own room agree ===== -/
def jV (n k : Nat) (v u : Nat → Nat → Int32) (C cs ms : Nat → Nat) (T : Nat) : Prop :=
  n ≤ 6 ∧ k ≤ 20 ∧
  (∀ i, i < n → mCon (v (300 + i)) (v (200 + i)) ∧ (∀ d, d < 16 → u (20 + i) d = v (200 + i) d) ∧ (∀ d, d < 16 → ∃ t, t < 10000 ∧ v (200 + i) d = nI t) ∧ u 7 i = nI (C i) ∧ v (100 + i) 2 = nI (C i) ∧ C i ≤ T) ∧
  (∀ i, n ≤ i → i < 6 → u 7 i = nI 0) ∧
  (∀ j, j < k → cs j < n ∧ v (400 + j) 0 = nI (cs j) ∧ v (400 + j) 2 = nI (ms j) ∧ (∀ t, t < 3 → u (40 + j) t = v (400 + j) t) ∧ ms j ≤ C (cs j) ∧ (C (cs j) = ms j → v (300 + cs j) 1 = v (400 + j) 1))
section JV
variable {n k : Nat} {v u : Nat → Nat → Int32} {C cs ms : Nat → Nat} {T : Nat} {i d : Nat} {t : Int32}
theorem jV_n (h : jV n k v u C cs ms T) : n ≤ 6 := h.1
theorem jV_k (h : jV n k v u C cs ms T) : k ≤ 20 := h.2.1
theorem jV_c (h : jV n k v u C cs ms T) (hi : i < n) : mCon (v (300 + i)) (v (200 + i)) := (h.2.2.1 i hi).1
theorem jV_u (h : jV n k v u C cs ms T) (hi : i < n) (hd : d < 16) : u (20 + i) d = v (200 + i) d := (h.2.2.1 i hi).2.1 d hd
theorem jV_t (h : jV n k v u C cs ms T) (hi : i < n) (hd : d < 16) : ∃ t, t < 10000 ∧ v (200 + i) d = nI t := (h.2.2.1 i hi).2.2.1 d hd
theorem jV_T (h : jV n k v u C cs ms T) {T' : Nat} (hT : T ≤ T') : jV n k v u C cs ms T' :=
  ⟨h.1, h.2.1, fun i hi => by
    obtain ⟨a, b, c, d, e, f⟩ := h.2.2.1 i hi
    exact ⟨a, b, c, d, e, by omega⟩, h.2.2.2.1, h.2.2.2.2⟩
theorem jV_3 (h : jV n k v u C cs ms T) (g : Nat → Int32) : jV n k (va_up v 3 g) u C cs ms T := by
  refine ⟨h.1, h.2.1, fun i hi => ?_, h.2.2.2.1, fun j hj => ?_⟩
  · rw [va_up_n _ _ (by omega), va_up_n _ _ (by omega), va_up_n _ _ (by omega)]
    exact h.2.2.1 i hi
  · rw [va_up_n _ _ (by omega), va_up_n _ _ (by omega)]
    exact h.2.2.2.2 j hj
theorem jLay1_2 : mLay1 v i d t (200 + i) = upd (v (200 + i)) d t := by
  unfold mLay1
  rw [va_up_n _ _ (by omega), va_up_n _ _ (by omega), va_up_s]
theorem jLay1_1 : mLay1 v i d t (100 + i) = upd (v (100 + i)) 2 (v (100 + i) 2 + nI 1) := by
  unfold mLay1
  rw [va_up_n _ _ (by omega), va_up_s]
theorem jLay1_3 : mLay1 v i d t (300 + i) = mSumUp (v (300 + i)) d t := by
  unfold mLay1
  rw [va_up_s]
theorem jLay1_n {w : Nat} (h1 : w ≠ 100 + i) (h2 : w ≠ 200 + i) (h3 : w ≠ 300 + i) : mLay1 v i d t w = v w := by
  unfold mLay1
  rw [va_up_n _ _ h3, va_up_n _ _ h1, va_up_n _ _ h2]
theorem jPut1_t (hi : i < 6) : jPut1 u i d t (20 + i) = upd (u (20 + i)) d t := by
  unfold jPut1
  rw [va_up_n _ _ (by omega), va_up_s]
theorem jPut1_7 : jPut1 u i d t 7 = upd (u 7) i (u 7 i + nI 1) := by
  unfold jPut1
  rw [va_up_s]
theorem jPut1_n {w : Nat} (h1 : w ≠ 20 + i) (h2 : w ≠ 7) : jPut1 u i d t w = u w := by
  unfold jPut1
  rw [va_up_n _ _ h2, va_up_n _ _ h1]
/-- how often each cupboard has changed, behind a put -/
def jC (C : Nat → Nat) (u : Nat → Nat → Int32) (i d : Nat) (t : Int32) : Nat → Nat := if u (20 + i) d = t then C else va_up C i (C i + 1)
theorem jC_le (e : Nat) : C e ≤ jC C u i d t e := by
  unfold jC
  split
  · exact Nat.le_refl _
  · by_cases h : e = i
    · subst h; rw [va_up_s]; omega
    · rw [va_up_n _ _ h]; exact Nat.le_refl _
theorem jV_lay (h : jV n k v u C cs ms T) (hi : i < n) (hd : d < 16) (ht : ∃ t', t' < 10000 ∧ t = nI t') : jV n k (mLay v i d t) (jPut u i d t) (jC C u i d t) cs ms (T + 1) := by
  obtain ⟨h1, h2, h3, h4, h5⟩ := id h
  obtain ⟨a1, a2, a3, a4, a5, a6⟩ := h3 i hi
  have e0 : (u (20 + i) d = t) = (v (200 + i) d = t) := by rw [a2 d hd]
  by_cases ht0 : v (200 + i) d = t
  · have e1 : mLay v i d t = v := if_pos ht0
    have e2 : jPut u i d t = u := if_pos (by rw [e0]; exact ht0)
    have e3 : jC C u i d t = C := if_pos (by rw [e0]; exact ht0)
    rw [e1, e2, e3]
    exact jV_T h (by omega)
  · have e1 : mLay v i d t = mLay1 v i d t := if_neg ht0
    have e2 : jPut u i d t = jPut1 u i d t := if_neg (by rw [e0]; exact ht0)
    have e3 : jC C u i d t = va_up C i (C i + 1) := if_neg (by rw [e0]; exact ht0)
    rw [e1, e2, e3]
    refine ⟨h1, h2, fun e he => ?_, fun e g1 g2 => ?_, fun j hj => ?_⟩
    · by_cases hei : e = i
      · subst hei
        rw [jLay1_3, jLay1_2, jLay1_1, jPut1_t (by omega), jPut1_7, va_up_s]
        refine ⟨mCon_up a1 hd t, fun d' hd' => ?_, fun d' hd' => ?_, ?_, ?_, by omega⟩
        · by_cases q : d' = d
          · subst q; rw [upd_s, upd_s]
          · rw [upd_n _ _ q, upd_n _ _ q]; exact a2 d' hd'
        · by_cases q : d' = d
          · subst q; rw [upd_s]; exact ht
          · rw [upd_n _ _ q]; exact a3 d' hd'
        · rw [upd_s, a4, nI_add]
        · rw [upd_s, a5, nI_add]
      · rw [jLay1_n (by omega) (by omega) (by omega), jLay1_n (by omega) (by omega) (by omega), jLay1_n (by omega) (by omega) (by omega), jPut1_n (by omega) (by omega), jPut1_7, upd_n _ _ hei, va_up_n _ _ hei]
        obtain ⟨b1, b2, b3, b4, b5, b6⟩ := h3 e he
        exact ⟨b1, b2, b3, b4, b5, by omega⟩
    · rw [jPut1_7, upd_n _ _ (by omega)]
      exact h4 e g1 g2
    · obtain ⟨b1, b2, b3, b4, b5, b6⟩ := h5 j hj
      rw [jLay1_n (by omega) (by omega) (by omega), jPut1_n (by omega) (by omega)]
      refine ⟨b1, b2, b3, b4, ?_, fun q => ?_⟩
      · by_cases hc : cs j = i
        · rw [hc, va_up_s]; rw [hc] at b5; omega
        · rw [va_up_n _ _ hc]; exact b5
      · by_cases hc : cs j = i
        · rw [hc, va_up_s] at q
          rw [hc] at b5
          omega
        · rw [va_up_n _ _ hc] at q
          rw [jLay1_n (by omega) (by omega) (by omega)]
          exact b6 q
theorem jV_lay' (h : jV n k v u C cs ms T) (hi : i < n) (hd : d < 16) (ht : ∃ t', t' < 10000 ∧ t = nI t') : ∃ C', jV n k (mLay v i d t) (jPut u i d t) C' cs ms (T + 1) ∧ ∀ e, C e ≤ C' e := ⟨_, jV_lay h hi hd ht, jC_le⟩
theorem jV_swap (h : jV n k v u C cs ms T) (hi : i < n) {a b : Nat} (ha : a < 16) (hb : b < 16) : ∃ C', jV n k (mSwap v i a b) (jSwap u i a b) C' cs ms (T + 2) ∧ ∀ e, C e ≤ C' e := by
  have h0 := jV_3 h (va_cpy (v (300 + i)) (v 3) 0 0 32)
  have ea : va_up v 3 (va_cpy (v (300 + i)) (v 3) 0 0 32) (200 + i) = v (200 + i) := va_up_n _ _ (by omega)
  obtain ⟨C1, h1, l1⟩ := jV_lay' h0 hi ha (t := v (200 + i) b) (jV_t h hi hb)
  obtain ⟨C2, h2, l2⟩ := jV_lay' h1 hi hb (t := v (200 + i) a) (jV_t h hi ha)
  refine ⟨C2, ?_, fun e => Nat.le_trans (l1 e) (l2 e)⟩
  have e1 : jSwap u i a b = jPut (jPut u i a (v (200 + i) b)) i b (v (200 + i) a) := by unfold jSwap; rw [jV_u h hi ha, jV_u h hi hb]
  rw [e1]
  exact h2
theorem jV_mend (h : jV n k v u C cs ms T) {a b : Nat} (ha : a < n) (hb : b < n) (z : Nat) : ∀ t, t ≤ 16 → ∃ C', jV n k (mMend v a b z t) (jMend u a b z t) C' cs ms (T + t) ∧ ∀ e, C e ≤ C' e := by
  intro t
  induction t with
  | zero => intro _; exact ⟨C, h, fun _ => Nat.le_refl _⟩
  | succ t ih =>
    intro ht
    obtain ⟨C1, h1, l1⟩ := ih (by omega)
    by_cases hz : z / 2 ^ t % 2 = 1
    · have e1 : mMend v a b z (t + 1) = mLay (mMend v a b z t) b t (mMend v a b z t (200 + a) t) := if_pos hz
      have e2 : jMend u a b z (t + 1) = jPut (jMend u a b z t) b t (jMend u a b z t (20 + a) t) := if_pos hz
      rw [e1, e2, jV_u h1 ha (by omega)]
      obtain ⟨C2, h2, l2⟩ := jV_lay' h1 hb (d := t) (by omega) (jV_t h1 ha (d := t) (by omega))
      exact ⟨C2, h2, fun e => Nat.le_trans (l1 e) (l2 e)⟩
    · have e1 : mMend v a b z (t + 1) = mMend v a b z t := if_neg hz
      have e2 : jMend u a b z (t + 1) = jMend u a b z t := if_neg hz
      rw [e1, e2]
      exact ⟨C1, jV_T h1 (by omega), l1⟩
/-- the seals are as they were -/
def jSl (k : Nat) (v v' : Nat → Nat → Int32) : Prop := ∀ j, j < k → v' (400 + j) = v (400 + j)
theorem jSl_lay (hi : i < 6) (hk : k ≤ 20) : jSl k v (mLay v i d t) := fun j hj => mLay_ne v i d t (by omega) (by omega) (by omega)
theorem jSl_swap (hi : i < 6) (hk : k ≤ 20) {a b : Nat} : jSl k v (mSwap v i a b) := fun j hj => by
  unfold mSwap
  rw [mLay_ne _ _ _ _ (by omega) (by omega) (by omega), mLay_ne _ _ _ _ (by omega) (by omega) (by omega), va_up_n _ _ (by omega)]
theorem jSl_mend {a b z : Nat} (hb : b < 6) (hk : k ≤ 20) : ∀ t, jSl k v (mMend v a b z t) := by
  intro t
  induction t with
  | zero => exact fun _ _ => rfl
  | succ t ih =>
    intro j hj
    simp only [mMend]
    split
    · rw [mLay_ne _ _ _ _ (by omega) (by omega) (by omega)]; exact ih j hj
    · exact ih j hj
theorem jV_come (h : jV n k v u C cs ms T) (hn : n < 6) {g : Nat → Int32} (hg : mCon g (fun _ => 0)) : jV (n + 1) k (mVc v n g) (va_up u (20 + n) (fun _ => 0)) (va_up C n 0) cs ms T := by
  obtain ⟨h1, h2, h3, h4, h5⟩ := h
  refine ⟨by omega, h2, fun i hi => ?_, fun i g1 g2 => ?_, fun j hj => ?_⟩
  · by_cases hin : i = n
    · subst hin
      rw [mVc_3, mVc_2, mVc_1, va_up_s, va_up_n _ _ (by omega), va_up_s]
      exact ⟨hg, fun _ _ => rfl, fun _ _ => ⟨0, by decide, nI_0.symm⟩, h4 i (Nat.le_refl _) (by omega), nI_0.symm, by omega⟩
    · rw [mVc_n (by omega) (by omega) (by omega), mVc_n (by omega) (by omega) (by omega), mVc_n (by omega) (by omega) (by omega), va_up_n _ _ (by omega), va_up_n _ _ (by omega), va_up_n _ _ hin]
      exact h3 i (by omega)
  · rw [va_up_n _ _ (by omega)]
    exact h4 i (by omega) g2
  · obtain ⟨b1, b2, b3, b4, b5, b6⟩ := h5 j hj
    rw [mVc_n (by omega) (by omega) (by omega), mVc_n (by omega) (by omega) (by omega), va_up_n _ _ (by omega), va_up_n _ _ (show cs j ≠ n by omega)]
    exact ⟨by omega, b2, b3, b4, b5, b6⟩
theorem jV_seal (h : jV n k v u C cs ms T) (hk : k < 20) (hi : i < n) {g : Nat → Int32} (g0 : g 0 = nI i) (g1 : g 1 = v (300 + i) 1) (g2 : g 2 = v (100 + i) 2) : jV n (k + 1) (va_up v (400 + k) (mV3 (nI i) (v (300 + i) 1) (v (100 + i) 2))) (va_up u (40 + k) g) C (va_up cs k i) (va_up ms k (C i)) T := by
  obtain ⟨h1, h2, h3, h4, h5⟩ := h
  obtain ⟨a1, a2, a3, a4, a5, a6⟩ := h3 i hi
  have m0 : mV3 (nI i) (v (300 + i) 1) (v (100 + i) 2) 0 = nI i := if_pos rfl
  have m1 : mV3 (nI i) (v (300 + i) 1) (v (100 + i) 2) 1 = v (300 + i) 1 := rfl
  have m2 : mV3 (nI i) (v (300 + i) 1) (v (100 + i) 2) 2 = v (100 + i) 2 := rfl
  refine ⟨h1, by omega, fun e he => ?_, fun e e1 e2 => ?_, fun j hj => ?_⟩
  · rw [va_up_n _ _ (by omega), va_up_n _ _ (by omega), va_up_n _ _ (by omega), va_up_n _ _ (by omega), va_up_n _ _ (by omega)]
    exact h3 e he
  · rw [va_up_n _ _ (by omega)]
    exact h4 e e1 e2
  · by_cases hjk : j = k
    · subst hjk
      rw [va_up_s, va_up_s, va_up_s, va_up_s, va_up_n _ _ (by omega)]
      refine ⟨hi, m0, by rw [m2, a5], fun t ht => ?_, Nat.le_refl _, fun _ => m1.symm⟩
      rcases (show t = 0 ∨ t = 1 ∨ t = 2 by omega) with rfl | rfl | rfl
      · rw [m0, g0]
      · rw [m1, g1]
      · rw [m2, g2]
    · obtain ⟨b1, b2, b3, b4, b5, b6⟩ := h5 j (by omega)
      rw [va_up_n _ _ (by omega), va_up_n _ _ (by omega), va_up_n _ _ (by omega), va_up_n _ _ (by omega), va_up_n _ _ (by omega)]
      exact ⟨b1, b2, b3, b4, b5, b6⟩
/-! the answers agree -/
theorem jV_S (h : jV n k v u C cs ms T) (hi : i < n) : ∀ q, 1 ≤ q → q < 32 → v (300 + i) q = mS (u (20 + i)) q := mCon_S (mCon_things (jV_c h hi) (fun _ hd => jV_u h hi hd))
theorem jApart_eq {f f' g g' : Nat → Int32} (hf : ∀ q, 1 ≤ q → q < 32 → f q = f' q) (hg : ∀ q, 1 ≤ q → q < 32 → g q = g' q) : ∀ t, t ≤ 31 → mApart f g t = mApart f' g' t := by
  intro t
  induction t with
  | zero => intro _; rfl
  | succ t ih =>
    intro ht
    show mApart f g t + (if f (t + 1) = g (t + 1) then 0 else 1) = mApart f' g' t + (if f' (t + 1) = g' (t + 1) then 0 else 1)
    rw [ih (by omega), hf _ (by omega) (by omega), hg _ (by omega) (by omega)]
theorem jSwap_ans (h : jV n k v u C cs ms T) (hi : i < n) {a b : Nat} (ha : a < 16) (hb : b < 16) : mApart (mSwap v i a b 3) (mSwap v i a b (300 + i)) 31 = mApart (mS (u (20 + i))) (mS (jSwap u i a b (20 + i))) 31 := by
  obtain ⟨C', h', -⟩ := jV_swap h hi ha hb
  refine jApart_eq (fun q h1 h2 => ?_) (jV_S h' hi) 31 (Nat.le_refl _)
  rw [← jV_S h hi q h1 h2]
  have hn := h.1
  unfold mSwap
  rw [mLay_ne _ _ _ _ (by omega) (by omega) (by omega), mLay_ne _ _ _ _ (by omega) (by omega) (by omega), va_up_s, pk_cpy_in (by omega) (by omega), Nat.sub_zero, Nat.zero_add]
end JV
