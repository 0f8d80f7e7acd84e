/-! ===== what each call keeps ===== -/
def mRel (n : Nat) (w : Nat → Nat → Int32) (f5 f6 : Nat → Int32) : Prop := ∀ i, i < n → (∀ d, d < 16 → w (200 + i) d = f5 (16 * i + d)) ∧ w (100 + i) 2 = f6 i ∧ mCon (w (300 + i)) (w (200 + i))
def mSel (n k : Nat) (w : Nat → Nat → Int32) (f7 f8 f9 : Nat → Int32) (cs : Nat → Nat) : Prop := ∀ j, j < k → cs j < n ∧ f7 j = nI (cs j) ∧ w (400 + j) 0 = nI (cs j) ∧ w (400 + j) 1 = f8 j ∧ w (400 + j) 2 = f9 j
def mEmp (n : Nat) (f5 f6 : Nat → Int32) : Prop := ∀ i, n ≤ i → i < 6 → f6 i = 0 ∧ ∀ d, d < 16 → f5 (16 * i + d) = 0
section MKEEP
variable {n k : Nat} {v v2 w : Nat → Nat → Int32} {cs : Nat → Nat} {f5 f6 f7 f8 f9 : Nat → Int32} {i d : Nat} {t : Int32}
theorem mInv_mk (hn : n ≤ 6) (hk : k ≤ 20) (h41 : v2 4 1 = nI n) (h42 : v2 4 2 = nI k) (hw : ∀ z, 100 ≤ z → v2 z = w z) (h5 : v2 5 = f5) (h6 : v2 6 = f6) (h7 : v2 7 = f7) (h8 : v2 8 = f8) (h9 : v2 9 = f9) (hr : mRel n w f5 f6) (hs : mSel n k w f7 f8 f9 cs) (he : mEmp n f5 f6) : mInv n k v2 cs := by
  subst h5; subst h6; subst h7; subst h8; subst h9
  refine ⟨hn, hk, h41, h42, fun i hi => ?_, fun j hj => ?_, he⟩
  · rw [hw (200 + i) (by omega), hw (100 + i) (by omega), hw (300 + i) (by omega)]
    exact hr i hi
  · rw [hw (400 + j) (by omega)]
    exact hs j hj
theorem mInv_rel (h : mInv n k v cs) : mRel n v (v 5) (v 6) := h.2.2.2.2.1
theorem mInv_sel (h : mInv n k v cs) : mSel n k v (v 7) (v 8) (v 9) cs := h.2.2.2.2.2.1
theorem mInv_emp (h : mInv n k v cs) : mEmp n (v 5) (v 6) := h.2.2.2.2.2.2
theorem mInv_Q (h : mInv n k v cs) (hq : mQT v v2 t) : mInv n k v2 cs :=
  mInv_mk h.1 h.2.1 (hq.2.2.1.trans h.2.2.1) (hq.2.2.2.trans h.2.2.2.1) (fun z hz => hq.1 z (by omega) (by omega) (by omega)) (hq.1 5 (by decide) (by decide) (by decide)) (hq.1 6 (by decide) (by decide) (by decide)) (hq.1 7 (by decide) (by decide) (by decide)) (hq.1 8 (by decide) (by decide) (by decide)) (hq.1 9 (by decide) (by decide) (by decide)) (mInv_rel h) (mInv_sel h) (mInv_emp h)
theorem mInv_3 (h : mInv n k v cs) (g : Nat → Int32) : mInv n k (va_up v 3 g) cs :=
  mInv_mk (w := v) h.1 h.2.1 ((congrFun (va_up_n v g (by decide)) 1).trans h.2.2.1) ((congrFun (va_up_n v g (by decide)) 2).trans h.2.2.2.1) (fun z hz => va_up_n v g (by omega)) (va_up_n v g (by decide)) (va_up_n v g (by decide)) (va_up_n v g (by decide)) (va_up_n v g (by decide)) (va_up_n v g (by decide)) (mInv_rel h) (mInv_sel h) (mInv_emp h)
theorem mInv_M (h : mInv n k v cs) {f5' f6' : Nat → Int32} (hv : ∀ z, 4 ≤ z → (z < 100 ∨ 400 ≤ z) → w z = v z) (hq : mQM w v2 t f5' f6') (hr : mRel n w f5' f6') (he : mEmp n f5' f6') : mInv n k v2 cs :=
  mInv_mk (w := w) h.1 h.2.1 (hq.2.2.1.trans ((congrFun (hv 4 (by decide) (by omega)) 1).trans h.2.2.1)) (hq.2.2.2.1.trans ((congrFun (hv 4 (by decide) (by omega)) 2).trans h.2.2.2.1)) (fun z hz => hq.1 z (by omega) (by omega) (by omega) (by omega) (by omega)) hq.2.2.2.2.1 hq.2.2.2.2.2 ((hq.1 7 (by decide) (by decide) (by decide) (by decide) (by decide)).trans (hv 7 (by decide) (by omega))) ((hq.1 8 (by decide) (by decide) (by decide) (by decide) (by decide)).trans (hv 8 (by decide) (by omega))) ((hq.1 9 (by decide) (by decide) (by decide) (by decide) (by decide)).trans (hv 9 (by decide) (by omega))) hr (fun j hj => by rw [hv (400 + j) (by omega) (by omega)]; exact mInv_sel h j hj) he
theorem mLay_lo (v : Nat → Nat → Int32) (i d : Nat) (t : Int32) (hi : i < 6) : ∀ z, (z < 100 ∨ 400 ≤ z) → mLay v i d t z = v z := fun z hz => mLay_ne v i d t (by omega) (by omega) (by omega)
theorem mRel_lay (h : mRel n w f5 f6) (hn : n ≤ 6) (hi : i < n) (hd : d < 16) (t : Int32) : mRel n (mLay w i d t) (upd f5 (16 * i + d) t) (mL6 f5 f6 i d t) := by
  have hid := (h i hi).1 d hd
  by_cases ht : w (200 + i) d = t
  · have e1 : mLay w i d t = w := if_pos ht
    have e2 : upd f5 (16 * i + d) t = f5 := by rw [← ht, hid, upd_id]
    have e3 : mL6 f5 f6 i d t = f6 := if_pos (hid.symm.trans ht)
    rw [e1, e2, e3]
    exact h
  · have e1 : mLay w i d t = mLay1 w i d t := if_neg ht
    have e3 : mL6 f5 f6 i d t = upd f6 i (f6 i + nI 1) := if_neg (fun h9 => ht (hid.trans h9))
    rw [e3]
    intro z hz
    by_cases hzi : z = i
    · subst hzi
      rw [e1]
      have a1 : mLay1 w z d t (200 + z) = upd (w (200 + z)) d t := by
        unfold mLay1
        rw [va_up_n _ _ (by omega), va_up_n _ _ (by omega), va_up_s]
      have a2 : mLay1 w z d t (100 + z) = upd (w (100 + z)) 2 (w (100 + z) 2 + nI 1) := by
        unfold mLay1
        rw [va_up_n _ _ (by omega), va_up_s]
      have a3 : mLay1 w z d t (300 + z) = mSumUp (w (300 + z)) d t := by
        unfold mLay1
        rw [va_up_s]
      rw [a1, a2, a3]
      refine ⟨fun e he => ?_, ?_, mCon_up (h z hz).2.2 hd t⟩
      · by_cases hed : e = d
        · subst hed; rw [upd_s, upd_s]
        · rw [upd_n _ _ hed, upd_n _ _ (by omega)]; exact (h z hz).1 e he
      · rw [upd_s, upd_s, (h z hz).2.1]
    · rw [mLay_ne w i d t (by omega) (by omega) (by omega), mLay_ne w i d t (by omega) (by omega) (by omega), mLay_ne w i d t (by omega) (by omega) (by omega), upd_n _ _ hzi]
      refine ⟨fun e he => ?_, (h z hz).2.1, (h z hz).2.2⟩
      rw [upd_n _ _ (by omega)]; exact (h z hz).1 e he
theorem mEmp_lay (h : mEmp n f5 f6) (hi : i < n) (hd : d < 16) (t : Int32) : mEmp n (upd f5 (16 * i + d) t) (mL6 f5 f6 i d t) := by
  intro z h1 h2
  refine ⟨?_, fun e he => ?_⟩
  · unfold mL6
    split
    · exact (h z h1 h2).1
    · rw [upd_n _ _ (by omega)]; exact (h z h1 h2).1
  · rw [upd_n _ _ (by omega)]; exact (h z h1 h2).2 e he
theorem mInv_put (h : mInv n k v cs) (hi : i < n) (hd : d < 16) {t0 : Int32} (hq : mQM (mLay v i d t) v2 t0 (upd (v 5) (16 * i + d) t) (mL6 (v 5) (v 6) i d t)) : mInv n k v2 cs :=
  mInv_M h (fun z h1 h2 => mLay_lo v i d t (by have := h.1; omega) z h2) hq (mRel_lay (mInv_rel h) h.1 hi hd t) (mEmp_lay (mInv_emp h) hi hd t)
/-- swap -/
theorem mSwap_lo (v : Nat → Nat → Int32) (i a b : Nat) (hi : i < 6) : ∀ z, 4 ≤ z → (z < 100 ∨ 400 ≤ z) → mSwap v i a b z = v z := fun z h1 h2 => by
  unfold mSwap
  rw [mLay_lo _ i b _ hi z h2, mLay_lo _ i a _ hi z h2, va_up_n _ _ (by omega)]
theorem mSwap_3 (v : Nat → Nat → Int32) (i a b : Nat) (hi : i < 6) {q : Nat} (hq : q < 32) : mSwap v i a b 3 q = v (300 + i) q := by
  unfold mSwap
  rw [mLay_lo _ i b _ hi 3 (by omega), mLay_lo _ i a _ hi 3 (by omega), va_up_s, pk_cpy_in (by omega) (by omega), Nat.sub_zero, Nat.zero_add]
theorem mSwap_rel (h : mRel n v f5 f6) (hn : n ≤ 6) (hi : i < n) {a b : Nat} (ha : a < 16) (hb : b < 16) : mRel n (mSwap v i a b) (mX5 f5 i a b) (if f5 (16 * i + a) = f5 (16 * i + b) then f6 else upd f6 i (f6 i + nI 2)) := by
  have h0 : mRel n (va_up v 3 (va_cpy (v (300 + i)) (v 3) 0 0 32)) f5 f6 := fun z hz => by
    rw [va_up_n _ _ (by omega), va_up_n _ _ (by omega), va_up_n _ _ (by omega)]
    exact h z hz
  have h2 := mRel_lay (mRel_lay h0 hn hi ha (v (200 + i) b)) hn hi hb (v (200 + i) a)
  rw [(h i hi).1 a ha, (h i hi).1 b hb] at h2
  have e5 : upd (upd f5 (16 * i + a) (f5 (16 * i + b))) (16 * i + b) (f5 (16 * i + a)) = mX5 f5 i a b := rfl
  rw [e5] at h2
  have e6 : mL6 (upd f5 (16 * i + a) (f5 (16 * i + b))) (mL6 f5 f6 i a (f5 (16 * i + b))) i b (f5 (16 * i + a)) = (if f5 (16 * i + a) = f5 (16 * i + b) then f6 else upd f6 i (f6 i + nI 2)) := by
    by_cases hab : f5 (16 * i + a) = f5 (16 * i + b)
    · rw [if_pos hab]
      have k1 : mL6 f5 f6 i a (f5 (16 * i + b)) = f6 := if_pos hab
      have k2 : upd f5 (16 * i + a) (f5 (16 * i + b)) = f5 := by rw [← hab, upd_id]
      rw [k1, k2]
      exact if_pos hab.symm
    · rw [if_neg hab]
      have k1 : mL6 f5 f6 i a (f5 (16 * i + b)) = upd f6 i (f6 i + nI 1) := if_neg hab
      have hne : ¬ 16 * i + b = 16 * i + a := fun h9 => hab (by rw [h9])
      have k2 : upd f5 (16 * i + a) (f5 (16 * i + b)) (16 * i + b) = f5 (16 * i + b) := upd_n _ _ hne
      rw [k1]
      unfold mL6
      rw [k2, if_neg (fun h9 => hab h9.symm), upd_s]
      funext z
      by_cases hz : z = i
      · subst hz
        rw [upd_s, upd_s, Int32.add_assoc]
        rfl
      · rw [upd_n _ _ hz, upd_n _ _ hz, upd_n _ _ hz]
  rw [e6] at h2
  unfold mSwap
  rw [(h i hi).1 a ha, (h i hi).1 b hb]
  exact h2
theorem mSwap_emp (h : mEmp n f5 f6) (hi : i < n) {a b : Nat} (ha : a < 16) (hb : b < 16) : mEmp n (mX5 f5 i a b) (if f5 (16 * i + a) = f5 (16 * i + b) then f6 else upd f6 i (f6 i + nI 2)) := by
  intro z h1 h2
  refine ⟨?_, fun e he => ?_⟩
  · split
    · exact (h z h1 h2).1
    · rw [upd_n _ _ (by omega)]; exact (h z h1 h2).1
  · unfold mX5
    rw [upd_n _ _ (by omega), upd_n _ _ (by omega)]; exact (h z h1 h2).2 e he
theorem mInv_swap (h : mInv n k v cs) (hi : i < n) {a b : Nat} (ha : a < 16) (hb : b < 16) {t0 : Int32} (hq : mQM (mSwap v i a b) v2 t0 (mX5 (v 5) i a b) (if v 5 (16 * i + a) = v 5 (16 * i + b) then v 6 else upd (v 6) i (v 6 i + nI 2))) : mInv n k v2 cs :=
  mInv_M h (mSwap_lo v i a b (by have := h.1; omega)) hq (mSwap_rel (mInv_rel h) h.1 hi ha hb) (mSwap_emp (mInv_emp h) hi ha hb)
theorem mApart_sym (f g : Nat → Int32) : ∀ q, mApart f g q = mApart g f q := by
  intro q
  induction q with
  | zero => rfl
  | succ q ih =>
    show mApart f g q + (if f (q + 1) = g (q + 1) then 0 else 1) = mApart g f q + (if g (q + 1) = f (q + 1) then 0 else 1)
    rw [ih]
    by_cases h : f (q + 1) = g (q + 1)
    · rw [if_pos h, if_pos h.symm]
    · rw [if_neg h, if_neg (fun h9 => h h9.symm)]
theorem mRel_S (h : mRel n w f5 f6) (hi : i < n) : ∀ q, 1 ≤ q → q < 32 → w (300 + i) q = mS (fun d => f5 (16 * i + d)) q :=
  mCon_S (mCon_things (h i hi).2.2 (fun d hd => ((h i hi).1 d hd).symm))
theorem mSwap_ans (h : mInv n k v cs) (hi : i < n) {a b : Nat} (ha : a < 16) (hb : b < 16) : mApart (mSwap v i a b 3) (mSwap v i a b (300 + i)) 31 = mApart (mS (fun d => mX5 (v 5) i a b (16 * i + d))) (mS (fun d => v 5 (16 * i + d))) 31 := by
  have hn := h.1
  rw [mApart_sym]
  refine mApart_eq (fun q q1 q2 => mRel_S (mSwap_rel (mInv_rel h) hn hi ha hb) hi q q1 q2) (fun q q1 q2 => ?_) 31 (by decide)
  rw [mSwap_3 v i a b (by omega) q2]
  exact mRel_S (mInv_rel h) hi q q1 q2
/-- comparing -/
theorem mDf_ans (h : mInv n k v cs) {a b : Nat} (ha : a < n) (hb : b < n) : mDr (mLook (v (300 + a)) (v (300 + b)) 15) (v (300 + a)) (v (300 + b)) 16 = mCm (mS (fun d => v 5 (16 * a + d))) (mS (fun d => v 5 (16 * b + d))) 4 1 := by
  rw [mt_differ]
  exact (mCm_eq (mRel_S (mInv_rel h) ha) (mRel_S (mInv_rel h) hb) 4 1 (by decide) (by decide) (by decide)).1
theorem mLk_ans (h : mInv n k v cs) {a b : Nat} (ha : a < n) (hb : b < n) : mBc (nI (mLook (v (300 + a)) (v (300 + b)) 15)) = nI (mCl (mS (fun d => v 5 (16 * a + d))) (mS (fun d => v 5 (16 * b + d))) 4 1) := by
  rw [mt_looks]
  exact congrArg nI (mCm_eq (mRel_S (mInv_rel h) ha) (mRel_S (mInv_rel h) hb) 4 1 (by decide) (by decide) (by decide)).2
theorem mPv_ans (h : mInv n k v cs) {c9 j : Nat} (hc : c9 < n) (hj : j < k) (hd : d < 16) (x : Int32) : (mPrf (v (300 + c9)) d x 4 = v (400 + j) 1) ↔ (mComes d x (mS (fun d => v 5 (16 * c9 + d)) (mBes d 0)) (mS (fun d => v 5 (16 * c9 + d)) (mBes d 1)) (mS (fun d => v 5 (16 * c9 + d)) (mBes d 2)) (mS (fun d => v 5 (16 * c9 + d)) (mBes d 3)) = v 8 j) := by
  rw [(mInv_sel h j hj).2.2.2.1]
  have e : ∀ t, t < 4 → mS (fun d => v 5 (16 * c9 + d)) (mBes d t) = v (300 + c9) (mBes d t) := fun t ht => (mRel_S (mInv_rel h) hc _ (mBes_pos d hd t ht) (mBes_lt d hd t ht)).symm
  rw [e 0 (by decide), e 1 (by decide), e 2 (by decide), e 3 (by decide)]
  have e2 : mPrf (v (300 + c9)) d x 4 = mComes d x (v (300 + c9) (mBes d 0)) (v (300 + c9) (mBes d 1)) (v (300 + c9) (mBes d 2)) (v (300 + c9) (mBes d 3)) := by
    show mAbove ((16 + d) / 2 ^ 3) (mAbove ((16 + d) / 2 ^ 2) (mAbove ((16 + d) / 2 ^ 1) (mAbove ((16 + d) / 2 ^ 0) (mLeaf (nI d) x) (v (300 + c9) (mBes d 0))) (v (300 + c9) (mBes d 1))) (v (300 + c9) (mBes d 2))) (v (300 + c9) (mBes d 3)) = _
    rw [Nat.pow_zero, Nat.div_one]
    rfl
  rw [e2]
def mSO (x y : Int32) (f : Nat → Int32) (r : Int32) : Prop := (x = y → r = -1) ∧ (¬ x = y → mSwR f y r)
theorem mSO_of {x y : Int32} {f : Nat → Int32} {r : Int32} (h : if x = y then r = -1 else mSwR f y r) : mSO x y f r := ⟨fun e => by rw [if_pos e] at h; exact h, fun e => by rw [if_neg e] at h; exact h⟩
theorem mSO_one {x x' y y' : Int32} {f f' : Nat → Int32} {r r2 : Int32} (hx : x = x') (hy : y = y') (hf : ∀ d, d < 16 → f' d = f d) (h1 : mSO x y f r) (h2 : mSO x' y' f' r2) : r = r2 := by
  subst hx
  subst hy
  by_cases hq : x = y
  · rw [h1.1 hq, h2.1 hq]
  · exact mSwR_one (mSwR_things hf (h1.2 hq)) (h2.2 hq)
set_option linter.constructorNameAsVariable false in
theorem mSw_ans (h : mInv n k v cs) {c9 j : Nat} (hc : c9 < n) (hj : j < k) {r r2 : Int32} (h1 : mSO (v (300 + c9) 1) (v (400 + j) 1) (v (200 + c9)) r) (h2 : mSO (mS (fun d => v 5 (16 * c9 + d)) 1) (v 8 j) (fun d => v 5 (16 * c9 + d)) r2) : r = r2 := by
  have e1 : v (300 + c9) 1 = mS (fun d => v 5 (16 * c9 + d)) 1 := mRel_S (mInv_rel h) hc 1 (by decide) (by decide)
  have e2 : v (400 + j) 1 = v 8 j := (mInv_sel h j hj).2.2.2.1
  have e3 : ∀ d, d < 16 → (fun d => v 5 (16 * c9 + d)) d = v (200 + c9) d := fun d hd => ((mInv_rel h c9 hc).1 d hd).symm
  revert h1 h2 e1 e3
  generalize mS (fun d => v 5 (16 * c9 + d)) 1 = z
  generalize (fun d => v 5 (16 * c9 + d)) = F
  intro h1 h2 e1 e3
  exact mSO_one e1 e2 e3 h1 h2
/-- mend: after d drawers -/
theorem mMe5_at (f : Nat → Int32) (a b z : Nat) : ∀ t x, t ≤ 16 → (∀ e, e < t → x ≠ 16 * b + e) → mMe5 f a b z t x = f x := by
  intro t
  induction t with
  | zero => intro x _ _; rfl
  | succ t ih =>
    intro x ht hx
    show (if z / 2 ^ t % 2 = 1 then upd (mMe5 f a b z t) (16 * b + t) (mMe5 f a b z t (16 * a + t)) else mMe5 f a b z t) x = f x
    split
    · rw [upd_n _ _ (hx t (by omega))]; exact ih x (by omega) (fun e he => hx e (by omega))
    · exact ih x (by omega) (fun e he => hx e (by omega))
theorem mMend_lo (v : Nat → Nat → Int32) (a b z : Nat) (hb : b < 6) : ∀ t y, (y < 100 ∨ 400 ≤ y) → mMend v a b z t y = v y := by
  intro t
  induction t with
  | zero => intro y _; rfl
  | succ t ih =>
    intro y hy
    show (if z / 2 ^ t % 2 = 1 then mLay (mMend v a b z t) b t (mMend v a b z t (200 + a) t) else mMend v a b z t) y = v y
    split
    · rw [mLay_lo _ b t _ hb y hy]; exact ih y hy
    · exact ih y hy
theorem mMend_rel (h : mRel n v f5 f6) (he : mEmp n f5 f6) (hn : n ≤ 6) {a b : Nat} (ha : a < n) (hb : b < n) (z : Nat) : ∀ t, t ≤ 16 → mRel n (mMend v a b z t) (mMe5 f5 a b z t) (mMe6 f5 f6 a b z t) ∧ mEmp n (mMe5 f5 a b z t) (mMe6 f5 f6 a b z t) := by
  intro t
  induction t with
  | zero => intro _; exact ⟨h, he⟩
  | succ t ih =>
    intro ht
    obtain ⟨i1, i2⟩ := ih (by omega)
    by_cases hz : z / 2 ^ t % 2 = 1
    · have e1 : mMend v a b z (t + 1) = mLay (mMend v a b z t) b t (mMend v a b z t (200 + a) t) := if_pos hz
      have e2 : mMe5 f5 a b z (t + 1) = upd (mMe5 f5 a b z t) (16 * b + t) (mMe5 f5 a b z t (16 * a + t)) := if_pos hz
      have e3 : mMe6 f5 f6 a b z (t + 1) = mL6 (mMe5 f5 a b z t) (mMe6 f5 f6 a b z t) b t (mMe5 f5 a b z t (16 * a + t)) := if_pos hz
      rw [e1, e2, e3, (i1 a ha).1 t (by omega)]
      exact ⟨mRel_lay i1 hn hb (by omega) _, mEmp_lay i2 hb (by omega) _⟩
    · have e1 : mMend v a b z (t + 1) = mMend v a b z t := if_neg hz
      have e2 : mMe5 f5 a b z (t + 1) = mMe5 f5 a b z t := if_neg hz
      have e3 : mMe6 f5 f6 a b z (t + 1) = mMe6 f5 f6 a b z t := if_neg hz
      rw [e1, e2, e3]
      exact ⟨i1, i2⟩
theorem mInv_mend (h : mInv n k v cs) {a b z : Nat} (ha : a < n) (hb : b < n) {t0 : Int32} (hq : mQM (mMend v a b z 16) v2 t0 (mMe5 (v 5) a b z 16) (mMe6 (v 5) (v 6) a b z 16)) : mInv n k v2 cs := by
  obtain ⟨r1, r2⟩ := mMend_rel (mInv_rel h) (mInv_emp h) h.1 ha hb z 16 (Nat.le_refl _)
  exact mInv_M h (fun y h1 h2 => mMend_lo v a b z (by have := h.1; omega) 16 y h2) hq r1 r2
end MKEEP
