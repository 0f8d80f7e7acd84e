set_option maxHeartbeats 4000000 in
set_option maxRecDepth 100000 in
set_option linter.constructorNameAsVariable false in
theorem ok_come (l : Launch) (hst : l.stackTraces = false) (G : va_G) (cy : Nat → ClassId) (ad : Nat → Nat) (n k : Nat) (v : Nat → Nat → Int32) (o : Nat → Int64) (cs : Nat → Nat) (hI : mInv n k v cs) (sz : Nat) : ∃ mc ms : Nat, mc ≤ 4 ∧ ms ≤ 60 ∧ mMi l yL_come wsL_come ({ frames := 10, cells := mc, slots := ms, locals := 220 }) G cy ad (Sy cy ad n k v o) sz [.ref (ad 0), .ref (ad 12)] mc ms (fun (r : Int32) u => ∃ (t n' k' : Nat) (ad' : Nat → Nat) (v' : Nat → Nat → Int32) (o' : Nat → Int64), t ≤ 2 ∧ n' ≤ 6 ∧ k' ≤ 20 ∧ r = nI t ∧ u = (ad', Sy cy ad' n' k' v' o') ∧ ad' 0 = ad 0 ∧ ad' 4 = ad 4 ∧ ad' 12 = ad 12 ∧ ∀ sz' : Nat, mMi l yX3_come wsX3_come ({ frames := 8, cells := 0, slots := 0, locals := 140 }) G cy ad' (Sy cy ad' n' k' v' o') sz' [.ref (ad' 4)] 0 0 (fun (r2 : Int32) u2 => ∃ v2 : Nat → Nat → Int32, u2 = (ad', Sy cy ad' n' k' v2 o') ∧ v2 4 0 = nI t ∧ (t = 0 → o' 0 = r2.toInt64) ∧ ∃ cs, mInv n' k' v2 cs)) := by
  have hn := hI.1
  have hk := hI.2.1
  have hm1 := hI.2.2.1
  have hm2 := hI.2.2.2.1
  by_cases hfull : n = 6
  · skip
    refine ⟨1, 6, by decide, by decide, mMi_w (x_L_come1 l hst G cy ad n k v o hn hk sz (by omega)) (fun r u h => ?_)⟩
    obtain ⟨rfl, rfl⟩ := h
    refine ⟨1, n, k, ad, v, o, by decide, hn, hk, rfl, rfl, rfl, rfl, rfl, fun sz' => mMi_w (x_X3_come1 l G cy ad n k n k v o hn hk sz' hm1 hm2 (by omega)) (fun r2 u2 h9 => ?_)⟩
    obtain ⟨_, v2, rfl, hq⟩ := h9
    exact ⟨v2, rfl, hq.2.1, fun h8 => absurd h8 (by decide), cs, mInv_Q hI hq⟩
  · skip
    refine ⟨3, 51, by decide, by decide, mMi_w (c_L_come l G cy ad n k v o hn hk sz (by omega)) (fun r u h => ?_)⟩
    obtain ⟨rfl, ad9, g9, rfl, hj9, hc9⟩ := h
    have hv : ∀ z, 4 ≤ z → (z < 100 ∨ 400 ≤ z) → (mVc v n g9) z = v z := fun z h4 hz => mVc_n (by omega) (by omega) (by omega)
    refine ⟨0, (n + 1), k, ad9, _, _, by decide, by omega, by omega, rfl, rfl, hj9 0 (Or.inl (by decide)), hj9 4 (Or.inl (by decide)), hj9 12 (Or.inl (by decide)), fun sz' => mMi_w (c_X3_come l G cy ad9 (n + 1) k n k (mVc v n g9) _ hn hk sz' ((congrFun (hv 4 (by decide) (by omega)) 1).trans hm1) ((congrFun (hv 4 (by decide) (by omega)) 2).trans hm2) (by omega)) (fun r2 u2 h9 => ?_)⟩
    obtain ⟨rfl, v2, rfl, hq⟩ := h9
    exact ⟨v2, rfl, hq.2.1, fun _ => (if_pos rfl).trans (congrArg Int32.toInt64 (rfl)), _, mInv_come hI (by omega) hc9 hq⟩

set_option maxHeartbeats 4000000 in
set_option maxRecDepth 100000 in
set_option linter.constructorNameAsVariable false in
theorem ok_put (l : Launch) (hst : l.stackTraces = false) (G : va_G) (cy : Nat → ClassId) (ad : Nat → Nat) (n k : Nat) (v : Nat → Nat → Int32) (o : Nat → Int64) (cs : Nat → Nat) (hI : mInv n k v cs) (sz : Nat) (x0 x1 x2 : Int32) : ∃ mc ms : Nat, mc ≤ 4 ∧ ms ≤ 60 ∧ mMi l yL_put wsL_put ({ frames := 11, cells := mc, slots := ms, locals := 260 }) G cy ad (Sy cy ad n k v o) sz [.ref (ad 0), .int x0, .int x1, .int x2, .ref (ad 12)] mc ms (fun (r : Int32) u => ∃ (t n' k' : Nat) (ad' : Nat → Nat) (v' : Nat → Nat → Int32) (o' : Nat → Int64), t ≤ 2 ∧ n' ≤ 6 ∧ k' ≤ 20 ∧ r = nI t ∧ u = (ad', Sy cy ad' n' k' v' o') ∧ ad' 0 = ad 0 ∧ ad' 4 = ad 4 ∧ ad' 12 = ad 12 ∧ ∀ sz' : Nat, mMi l yX3_put wsX3_put ({ frames := 9, cells := 0, slots := 0, locals := 180 }) G cy ad' (Sy cy ad' n' k' v' o') sz' [.ref (ad' 4), .int x0, .int x1, .int x2] 0 0 (fun (r2 : Int32) u2 => ∃ v2 : Nat → Nat → Int32, u2 = (ad', Sy cy ad' n' k' v2 o') ∧ v2 4 0 = nI t ∧ (t = 0 → o' 0 = r2.toInt64) ∧ ∃ cs, mInv n' k' v2 cs)) := by
  have hn := hI.1
  have hk := hI.2.1
  have hm1 := hI.2.2.1
  have hm2 := hI.2.2.2.1
  rcases mi_or x0 (n := n) (by omega) with ⟨a0, h0, rfl⟩ | hb0
  · skip
    rcases mi_or x1 (n := 16) (by omega) with ⟨a1, h1, rfl⟩ | hb1
    · skip
      rcases mi_or x2 (n := 10000) (by omega) with ⟨a2, h2, rfl⟩ | hb2
      · skip
        refine ⟨0, 0, by decide, by decide, mMi_w (c_L_put l G cy ad n k v o hn hk sz a0 (by omega) a1 a2 (by omega) (by omega)) (fun r u h => ?_)⟩
        obtain ⟨rfl, rfl⟩ := h
        have hv : ∀ z, 4 ≤ z → (z < 100 ∨ 400 ≤ z) → (mLay v a0 a1 (nI a2)) z = v z := fun z h4 hz => mLay_lo v a0 a1 (nI a2) (by omega) z hz
        refine ⟨0, n, k, ad, _, _, by decide, by omega, by omega, rfl, rfl, rfl, rfl, rfl, fun sz' => mMi_w (c_X3_put l G cy ad n k n k (mLay v a0 a1 (nI a2)) _ hn hk sz' ((congrFun (hv 4 (by decide) (by omega)) 1).trans hm1) ((congrFun (hv 4 (by decide) (by omega)) 2).trans hm2) a0 a1 (by omega) (by omega) a2 (by omega) (hv 5 (by decide) (by omega)) (hv 6 (by decide) (by omega))) (fun r2 u2 h9 => ?_)⟩
        obtain ⟨rfl, v2, rfl, hq⟩ := h9
        exact ⟨v2, rfl, hq.2.1, fun _ => (if_pos rfl).trans (congrArg Int32.toInt64 ((mInv_rel hI a0 h0).1 a1 h1)), _, mInv_put hI h0 h1 hq⟩
      · skip
        refine ⟨1, 6, by decide, by decide, mMi_w (x_L_put3 l hst G cy ad n k v o hn hk sz a0 (by omega) a1 (by omega) x2 hb2) (fun r u h => ?_)⟩
        obtain ⟨rfl, rfl⟩ := h
        refine ⟨2, n, k, ad, v, o, by decide, hn, hk, rfl, rfl, rfl, rfl, rfl, fun sz' => mMi_w (x_X3_put3 l G cy ad n k n k v o hn hk sz' hm1 hm2 a0 a1 (by omega) (by omega) x2 hb2) (fun r2 u2 h9 => ?_)⟩
        obtain ⟨_, v2, rfl, hq⟩ := h9
        exact ⟨v2, rfl, hq.2.1, fun h8 => absurd h8 (by decide), cs, mInv_Q hI hq⟩
    · skip
      refine ⟨1, 6, by decide, by decide, mMi_w (x_L_put2 l hst G cy ad n k v o hn hk sz a0 (by omega) x1 hb1 x2) (fun r u h => ?_)⟩
      obtain ⟨rfl, rfl⟩ := h
      refine ⟨1, n, k, ad, v, o, by decide, hn, hk, rfl, rfl, rfl, rfl, rfl, fun sz' => mMi_w (x_X3_put2 l G cy ad n k n k v o hn hk sz' hm1 hm2 a0 (by omega) x1 hb1 x2) (fun r2 u2 h9 => ?_)⟩
      obtain ⟨_, v2, rfl, hq⟩ := h9
      exact ⟨v2, rfl, hq.2.1, fun h8 => absurd h8 (by decide), cs, mInv_Q hI hq⟩
  · skip
    refine ⟨1, 6, by decide, by decide, mMi_w (x_L_put1 l hst G cy ad n k v o hn hk sz x0 hb0 x1 x2) (fun r u h => ?_)⟩
    obtain ⟨rfl, rfl⟩ := h
    refine ⟨1, n, k, ad, v, o, by decide, hn, hk, rfl, rfl, rfl, rfl, rfl, fun sz' => mMi_w (x_X3_put1 l G cy ad n k n k v o hn hk sz' hm1 hm2 x0 hb0 x1 x2) (fun r2 u2 h9 => ?_)⟩
    obtain ⟨_, v2, rfl, hq⟩ := h9
    exact ⟨v2, rfl, hq.2.1, fun h8 => absurd h8 (by decide), cs, mInv_Q hI hq⟩

set_option maxHeartbeats 4000000 in
set_option maxRecDepth 100000 in
set_option linter.constructorNameAsVariable false in
theorem ok_swap (l : Launch) (hst : l.stackTraces = false) (G : va_G) (cy : Nat → ClassId) (ad : Nat → Nat) (n k : Nat) (v : Nat → Nat → Int32) (o : Nat → Int64) (cs : Nat → Nat) (hI : mInv n k v cs) (sz : Nat) (x0 x1 x2 : Int32) : ∃ mc ms : Nat, mc ≤ 4 ∧ ms ≤ 60 ∧ mMi l yL_swap wsL_swap ({ frames := 11, cells := mc, slots := ms, locals := 260 }) G cy ad (Sy cy ad n k v o) sz [.ref (ad 0), .int x0, .int x1, .int x2, .ref (ad 12)] mc ms (fun (r : Int32) u => ∃ (t n' k' : Nat) (ad' : Nat → Nat) (v' : Nat → Nat → Int32) (o' : Nat → Int64), t ≤ 2 ∧ n' ≤ 6 ∧ k' ≤ 20 ∧ r = nI t ∧ u = (ad', Sy cy ad' n' k' v' o') ∧ ad' 0 = ad 0 ∧ ad' 4 = ad 4 ∧ ad' 12 = ad 12 ∧ ∀ sz' : Nat, mMi l yX3_swap wsX3_swap ({ frames := 9, cells := 0, slots := 0, locals := 180 }) G cy ad' (Sy cy ad' n' k' v' o') sz' [.ref (ad' 4), .int x0, .int x1, .int x2] 0 0 (fun (r2 : Int32) u2 => ∃ v2 : Nat → Nat → Int32, u2 = (ad', Sy cy ad' n' k' v2 o') ∧ v2 4 0 = nI t ∧ (t = 0 → o' 0 = r2.toInt64) ∧ ∃ cs, mInv n' k' v2 cs)) := by
  have hn := hI.1
  have hk := hI.2.1
  have hm1 := hI.2.2.1
  have hm2 := hI.2.2.2.1
  rcases mi_or x0 (n := n) (by omega) with ⟨a0, h0, rfl⟩ | hb0
  · skip
    rcases mi_or x1 (n := 16) (by omega) with ⟨a1, h1, rfl⟩ | hb1
    · skip
      rcases mi_or x2 (n := 16) (by omega) with ⟨a2, h2, rfl⟩ | hb2
      · skip
        refine ⟨0, 0, by decide, by decide, mMi_w (c_L_swap l G cy ad n k v o hn hk sz a0 (by omega) a1 a2 (by omega) (by omega)) (fun r u h => ?_)⟩
        obtain ⟨rfl, rfl⟩ := h
        have hv : ∀ z, 4 ≤ z → (z < 100 ∨ 400 ≤ z) → (mSwap v a0 a1 a2) z = v z := fun z h4 hz => mSwap_lo v a0 a1 a2 (by omega) z h4 hz
        refine ⟨0, n, k, ad, _, _, by decide, by omega, by omega, rfl, rfl, rfl, rfl, rfl, fun sz' => mMi_w (c_X3_swap l G cy ad n k n k (mSwap v a0 a1 a2) _ hn hk sz' ((congrFun (hv 4 (by decide) (by omega)) 1).trans hm1) ((congrFun (hv 4 (by decide) (by omega)) 2).trans hm2) a0 a1 a2 (by omega) (by omega) (by omega) (hv 5 (by decide) (by omega)) (hv 6 (by decide) (by omega))) (fun r2 u2 h9 => ?_)⟩
        obtain ⟨rfl, v2, rfl, hq⟩ := h9
        exact ⟨v2, rfl, hq.2.1, fun _ => (if_pos rfl).trans (congrArg Int32.toInt64 (congrArg nI (mSwap_ans hI h0 h1 h2))), _, mInv_swap hI h0 h1 h2 hq⟩
      · skip
        refine ⟨1, 6, by decide, by decide, mMi_w (x_L_swap3 l hst G cy ad n k v o hn hk sz a0 (by omega) a1 (by omega) x2 hb2) (fun r u h => ?_)⟩
        obtain ⟨rfl, rfl⟩ := h
        refine ⟨1, n, k, ad, v, o, by decide, hn, hk, rfl, rfl, rfl, rfl, rfl, fun sz' => mMi_w (x_X3_swap3 l G cy ad n k n k v o hn hk sz' hm1 hm2 a0 a1 (by omega) (by omega) x2 hb2) (fun r2 u2 h9 => ?_)⟩
        obtain ⟨_, v2, rfl, hq⟩ := h9
        exact ⟨v2, rfl, hq.2.1, fun h8 => absurd h8 (by decide), cs, mInv_Q hI hq⟩
    · skip
      refine ⟨1, 6, by decide, by decide, mMi_w (x_L_swap2 l hst G cy ad n k v o hn hk sz a0 (by omega) x1 hb1 x2) (fun r u h => ?_)⟩
      obtain ⟨rfl, rfl⟩ := h
      refine ⟨1, n, k, ad, v, o, by decide, hn, hk, rfl, rfl, rfl, rfl, rfl, fun sz' => mMi_w (x_X3_swap2 l G cy ad n k n k v o hn hk sz' hm1 hm2 a0 (by omega) x1 hb1 x2) (fun r2 u2 h9 => ?_)⟩
      obtain ⟨_, v2, rfl, hq⟩ := h9
      exact ⟨v2, rfl, hq.2.1, fun h8 => absurd h8 (by decide), cs, mInv_Q hI hq⟩
  · skip
    refine ⟨1, 6, by decide, by decide, mMi_w (x_L_swap1 l hst G cy ad n k v o hn hk sz x0 hb0 x1 x2) (fun r u h => ?_)⟩
    obtain ⟨rfl, rfl⟩ := h
    refine ⟨1, n, k, ad, v, o, by decide, hn, hk, rfl, rfl, rfl, rfl, rfl, fun sz' => mMi_w (x_X3_swap1 l G cy ad n k n k v o hn hk sz' hm1 hm2 x0 hb0 x1 x2) (fun r2 u2 h9 => ?_)⟩
    obtain ⟨_, v2, rfl, hq⟩ := h9
    exact ⟨v2, rfl, hq.2.1, fun h8 => absurd h8 (by decide), cs, mInv_Q hI hq⟩

set_option maxHeartbeats 4000000 in
set_option maxRecDepth 100000 in
set_option linter.constructorNameAsVariable false in
theorem ok_sum (l : Launch) (hst : l.stackTraces = false) (G : va_G) (cy : Nat → ClassId) (ad : Nat → Nat) (n k : Nat) (v : Nat → Nat → Int32) (o : Nat → Int64) (cs : Nat → Nat) (hI : mInv n k v cs) (sz : Nat) (x0 x1 : Int32) : ∃ mc ms : Nat, mc ≤ 4 ∧ ms ≤ 60 ∧ mMi l yL_sum wsL_sum ({ frames := 9, cells := mc, slots := ms, locals := 180 }) G cy ad (Sy cy ad n k v o) sz [.ref (ad 0), .int x0, .int x1, .ref (ad 12)] mc ms (fun (r : Int32) u => ∃ (t n' k' : Nat) (ad' : Nat → Nat) (v' : Nat → Nat → Int32) (o' : Nat → Int64), t ≤ 2 ∧ n' ≤ 6 ∧ k' ≤ 20 ∧ r = nI t ∧ u = (ad', Sy cy ad' n' k' v' o') ∧ ad' 0 = ad 0 ∧ ad' 4 = ad 4 ∧ ad' 12 = ad 12 ∧ ∀ sz' : Nat, mMi l yX3_sum wsX3_sum ({ frames := 9, cells := 0, slots := 0, locals := 180 }) G cy ad' (Sy cy ad' n' k' v' o') sz' [.ref (ad' 4), .int x0, .int x1] 0 0 (fun (r2 : Int32) u2 => ∃ v2 : Nat → Nat → Int32, u2 = (ad', Sy cy ad' n' k' v2 o') ∧ v2 4 0 = nI t ∧ (t = 0 → o' 0 = r2.toInt64) ∧ ∃ cs, mInv n' k' v2 cs)) := by
  have hn := hI.1
  have hk := hI.2.1
  have hm1 := hI.2.2.1
  have hm2 := hI.2.2.2.1
  rcases mi_or x0 (n := n) (by omega) with ⟨a0, h0, rfl⟩ | hb0
  · skip
    rcases mi_or1 x1 with ⟨a1, h1, rfl⟩ | hb1
    · skip
      refine ⟨0, 0, by decide, by decide, mMi_w (c_L_sum l G cy ad n k v o hn hk sz a0 (by omega) a1 (by omega) (by omega)) (fun r u h => ?_)⟩
      obtain ⟨rfl, rfl⟩ := h
      have hv : ∀ z, 4 ≤ z → (z < 100 ∨ 400 ≤ z) → v z = v z := fun z h4 hz => rfl
      refine ⟨0, n, k, ad, _, _, by decide, by omega, by omega, rfl, rfl, rfl, rfl, rfl, fun sz' => mMi_w (c_X3_sum l G cy ad n k n k v _ hn hk sz' ((congrFun (hv 4 (by decide) (by omega)) 1).trans hm1) ((congrFun (hv 4 (by decide) (by omega)) 2).trans hm2) a0 (by omega) a1 (by omega) (by omega) (hv 5 (by decide) (by omega))) (fun r2 u2 h9 => ?_)⟩
      obtain ⟨rfl, v2, rfl, hq⟩ := h9
      exact ⟨v2, rfl, hq.2.1, fun _ => (if_pos rfl).trans (congrArg Int32.toInt64 (mRel_S (mInv_rel hI) h0 a1 h1.1 (by omega))), _, mInv_Q hI hq⟩
    · skip
      refine ⟨1, 6, by decide, by decide, mMi_w (x_L_sum2 l hst G cy ad n k v o hn hk sz a0 (by omega) x1 hb1) (fun r u h => ?_)⟩
      obtain ⟨rfl, rfl⟩ := h
      refine ⟨1, n, k, ad, v, o, by decide, hn, hk, rfl, rfl, rfl, rfl, rfl, fun sz' => mMi_w (x_X3_sum2 l G cy ad n k n k v o hn hk sz' hm1 hm2 a0 (by omega) x1 hb1) (fun r2 u2 h9 => ?_)⟩
      obtain ⟨_, v2, rfl, hq⟩ := h9
      exact ⟨v2, rfl, hq.2.1, fun h8 => absurd h8 (by decide), cs, mInv_Q hI hq⟩
  · skip
    refine ⟨1, 6, by decide, by decide, mMi_w (x_L_sum1 l hst G cy ad n k v o hn hk sz x0 hb0 x1) (fun r u h => ?_)⟩
    obtain ⟨rfl, rfl⟩ := h
    refine ⟨1, n, k, ad, v, o, by decide, hn, hk, rfl, rfl, rfl, rfl, rfl, fun sz' => mMi_w (x_X3_sum1 l G cy ad n k n k v o hn hk sz' hm1 hm2 x0 hb0 x1) (fun r2 u2 h9 => ?_)⟩
    obtain ⟨_, v2, rfl, hq⟩ := h9
    exact ⟨v2, rfl, hq.2.1, fun h8 => absurd h8 (by decide), cs, mInv_Q hI hq⟩

set_option maxHeartbeats 4000000 in
set_option maxRecDepth 100000 in
set_option linter.constructorNameAsVariable false in
theorem ok_told (l : Launch) (hst : l.stackTraces = false) (G : va_G) (cy : Nat → ClassId) (ad : Nat → Nat) (n k : Nat) (v : Nat → Nat → Int32) (o : Nat → Int64) (cs : Nat → Nat) (hI : mInv n k v cs) (sz : Nat) (x0 x1 : Int32) : ∃ mc ms : Nat, mc ≤ 4 ∧ ms ≤ 60 ∧ mMi l yL_told wsL_told ({ frames := 9, cells := mc, slots := ms, locals := 180 }) G cy ad (Sy cy ad n k v o) sz [.ref (ad 0), .int x0, .int x1, .ref (ad 12)] mc ms (fun (r : Int32) u => ∃ (t n' k' : Nat) (ad' : Nat → Nat) (v' : Nat → Nat → Int32) (o' : Nat → Int64), t ≤ 2 ∧ n' ≤ 6 ∧ k' ≤ 20 ∧ r = nI t ∧ u = (ad', Sy cy ad' n' k' v' o') ∧ ad' 0 = ad 0 ∧ ad' 4 = ad 4 ∧ ad' 12 = ad 12 ∧ ∀ sz' : Nat, mMi l yX3_told wsX3_told ({ frames := 11, cells := 0, slots := 0, locals := 260 }) G cy ad' (Sy cy ad' n' k' v' o') sz' [.ref (ad' 4), .int x0, .int x1] 0 0 (fun (r2 : Int32) u2 => ∃ v2 : Nat → Nat → Int32, u2 = (ad', Sy cy ad' n' k' v2 o') ∧ v2 4 0 = nI t ∧ (t = 0 → o' 0 = r2.toInt64) ∧ ∃ cs, mInv n' k' v2 cs)) := by
  have hn := hI.1
  have hk := hI.2.1
  have hm1 := hI.2.2.1
  have hm2 := hI.2.2.2.1
  rcases mi_or x0 (n := n) (by omega) with ⟨a0, h0, rfl⟩ | hb0
  · skip
    rcases mi_or x1 (n := 6) (by omega) with ⟨a1, h1, rfl⟩ | hb1
    · skip
      refine ⟨0, 0, by decide, by decide, mMi_w (c_L_told l G cy ad n k v o hn hk sz a0 (by omega) a1 (by omega)) (fun r u h => ?_)⟩
      obtain ⟨rfl, rfl⟩ := h
      have hv : ∀ z, 4 ≤ z → (z < 100 ∨ 400 ≤ z) → v z = v z := fun z h4 hz => rfl
      refine ⟨0, n, k, ad, _, _, by decide, by omega, by omega, rfl, rfl, rfl, rfl, rfl, fun sz' => mMi_w (c_X3_told l G cy ad n k n k v _ hn hk sz' ((congrFun (hv 4 (by decide) (by omega)) 1).trans hm1) ((congrFun (hv 4 (by decide) (by omega)) 2).trans hm2) a0 a1 (by omega) (by omega) (hv 5 (by decide) (by omega)) (hv 6 (by decide) (by omega)) (hv 7 (by decide) (by omega)) (hv 8 (by decide) (by omega))) (fun r2 u2 h9 => ?_)⟩
      obtain ⟨rfl, v2, rfl, hq⟩ := h9
      exact ⟨v2, rfl, hq.2.1, fun _ => (if_pos rfl).trans (congrArg Int32.toInt64 (mTold_eq (mInv_agr hI) h0 a1)), _, mInv_Q hI hq⟩
    · skip
      refine ⟨1, 6, by decide, by decide, mMi_w (x_L_told2 l hst G cy ad n k v o hn hk sz a0 (by omega) x1 hb1) (fun r u h => ?_)⟩
      obtain ⟨rfl, rfl⟩ := h
      refine ⟨1, n, k, ad, v, o, by decide, hn, hk, rfl, rfl, rfl, rfl, rfl, fun sz' => mMi_w (x_X3_told2 l G cy ad n k n k v o hn hk sz' hm1 hm2 a0 (by omega) x1 hb1) (fun r2 u2 h9 => ?_)⟩
      obtain ⟨_, v2, rfl, hq⟩ := h9
      exact ⟨v2, rfl, hq.2.1, fun h8 => absurd h8 (by decide), cs, mInv_Q hI hq⟩
  · skip
    refine ⟨1, 6, by decide, by decide, mMi_w (x_L_told1 l hst G cy ad n k v o hn hk sz x0 hb0 x1) (fun r u h => ?_)⟩
    obtain ⟨rfl, rfl⟩ := h
    refine ⟨1, n, k, ad, v, o, by decide, hn, hk, rfl, rfl, rfl, rfl, rfl, fun sz' => mMi_w (x_X3_told1 l G cy ad n k n k v o hn hk sz' hm1 hm2 x0 hb0 x1) (fun r2 u2 h9 => ?_)⟩
    obtain ⟨_, v2, rfl, hq⟩ := h9
    exact ⟨v2, rfl, hq.2.1, fun h8 => absurd h8 (by decide), cs, mInv_Q hI hq⟩

set_option maxHeartbeats 4000000 in
set_option maxRecDepth 100000 in
set_option linter.constructorNameAsVariable false in
theorem ok_thing (l : Launch) (hst : l.stackTraces = false) (G : va_G) (cy : Nat → ClassId) (ad : Nat → Nat) (n k : Nat) (v : Nat → Nat → Int32) (o : Nat → Int64) (cs : Nat → Nat) (hI : mInv n k v cs) (sz : Nat) (x0 x1 : Int32) : ∃ mc ms : Nat, mc ≤ 4 ∧ ms ≤ 60 ∧ mMi l yL_thing wsL_thing ({ frames := 9, cells := mc, slots := ms, locals := 180 }) G cy ad (Sy cy ad n k v o) sz [.ref (ad 0), .int x0, .int x1, .ref (ad 12)] mc ms (fun (r : Int32) u => ∃ (t n' k' : Nat) (ad' : Nat → Nat) (v' : Nat → Nat → Int32) (o' : Nat → Int64), t ≤ 2 ∧ n' ≤ 6 ∧ k' ≤ 20 ∧ r = nI t ∧ u = (ad', Sy cy ad' n' k' v' o') ∧ ad' 0 = ad 0 ∧ ad' 4 = ad 4 ∧ ad' 12 = ad 12 ∧ ∀ sz' : Nat, mMi l yX3_thing wsX3_thing ({ frames := 9, cells := 0, slots := 0, locals := 180 }) G cy ad' (Sy cy ad' n' k' v' o') sz' [.ref (ad' 4), .int x0, .int x1] 0 0 (fun (r2 : Int32) u2 => ∃ v2 : Nat → Nat → Int32, u2 = (ad', Sy cy ad' n' k' v2 o') ∧ v2 4 0 = nI t ∧ (t = 0 → o' 0 = r2.toInt64) ∧ ∃ cs, mInv n' k' v2 cs)) := by
  have hn := hI.1
  have hk := hI.2.1
  have hm1 := hI.2.2.1
  have hm2 := hI.2.2.2.1
  rcases mi_or x0 (n := n) (by omega) with ⟨a0, h0, rfl⟩ | hb0
  · skip
    rcases mi_or x1 (n := 16) (by omega) with ⟨a1, h1, rfl⟩ | hb1
    · skip
      refine ⟨0, 0, by decide, by decide, mMi_w (c_L_thing l G cy ad n k v o hn hk sz a0 (by omega) a1 (by omega)) (fun r u h => ?_)⟩
      obtain ⟨rfl, rfl⟩ := h
      have hv : ∀ z, 4 ≤ z → (z < 100 ∨ 400 ≤ z) → v z = v z := fun z h4 hz => rfl
      refine ⟨0, n, k, ad, _, _, by decide, by omega, by omega, rfl, rfl, rfl, rfl, rfl, fun sz' => mMi_w (c_X3_thing l G cy ad n k n k v _ hn hk sz' ((congrFun (hv 4 (by decide) (by omega)) 1).trans hm1) ((congrFun (hv 4 (by decide) (by omega)) 2).trans hm2) a0 a1 (by omega) (by omega) (hv 5 (by decide) (by omega))) (fun r2 u2 h9 => ?_)⟩
      obtain ⟨rfl, v2, rfl, hq⟩ := h9
      exact ⟨v2, rfl, hq.2.1, fun _ => (if_pos rfl).trans (congrArg Int32.toInt64 ((mInv_rel hI a0 h0).1 a1 h1)), _, mInv_Q hI hq⟩
    · skip
      refine ⟨1, 6, by decide, by decide, mMi_w (x_L_thing2 l hst G cy ad n k v o hn hk sz a0 (by omega) x1 hb1) (fun r u h => ?_)⟩
      obtain ⟨rfl, rfl⟩ := h
      refine ⟨1, n, k, ad, v, o, by decide, hn, hk, rfl, rfl, rfl, rfl, rfl, fun sz' => mMi_w (x_X3_thing2 l G cy ad n k n k v o hn hk sz' hm1 hm2 a0 (by omega) x1 hb1) (fun r2 u2 h9 => ?_)⟩
      obtain ⟨_, v2, rfl, hq⟩ := h9
      exact ⟨v2, rfl, hq.2.1, fun h8 => absurd h8 (by decide), cs, mInv_Q hI hq⟩
  · skip
    refine ⟨1, 6, by decide, by decide, mMi_w (x_L_thing1 l hst G cy ad n k v o hn hk sz x0 hb0 x1) (fun r u h => ?_)⟩
    obtain ⟨rfl, rfl⟩ := h
    refine ⟨1, n, k, ad, v, o, by decide, hn, hk, rfl, rfl, rfl, rfl, rfl, fun sz' => mMi_w (x_X3_thing1 l G cy ad n k n k v o hn hk sz' hm1 hm2 x0 hb0 x1) (fun r2 u2 h9 => ?_)⟩
    obtain ⟨_, v2, rfl, hq⟩ := h9
    exact ⟨v2, rfl, hq.2.1, fun h8 => absurd h8 (by decide), cs, mInv_Q hI hq⟩

set_option maxHeartbeats 4000000 in
set_option maxRecDepth 100000 in
set_option linter.constructorNameAsVariable false in
theorem ok_seal (l : Launch) (hst : l.stackTraces = false) (G : va_G) (cy : Nat → ClassId) (ad : Nat → Nat) (n k : Nat) (v : Nat → Nat → Int32) (o : Nat → Int64) (cs : Nat → Nat) (hI : mInv n k v cs) (sz : Nat) (x0 : Int32) : ∃ mc ms : Nat, mc ≤ 4 ∧ ms ≤ 60 ∧ mMi l yL_seal wsL_seal ({ frames := 9, cells := mc, slots := ms, locals := 180 }) G cy ad (Sy cy ad n k v o) sz [.ref (ad 0), .int x0, .ref (ad 12)] mc ms (fun (r : Int32) u => ∃ (t n' k' : Nat) (ad' : Nat → Nat) (v' : Nat → Nat → Int32) (o' : Nat → Int64), t ≤ 2 ∧ n' ≤ 6 ∧ k' ≤ 20 ∧ r = nI t ∧ u = (ad', Sy cy ad' n' k' v' o') ∧ ad' 0 = ad 0 ∧ ad' 4 = ad 4 ∧ ad' 12 = ad 12 ∧ ∀ sz' : Nat, mMi l yX3_seal wsX3_seal ({ frames := 10, cells := 0, slots := 0, locals := 220 }) G cy ad' (Sy cy ad' n' k' v' o') sz' [.ref (ad' 4), .int x0] 0 0 (fun (r2 : Int32) u2 => ∃ v2 : Nat → Nat → Int32, u2 = (ad', Sy cy ad' n' k' v2 o') ∧ v2 4 0 = nI t ∧ (t = 0 → o' 0 = r2.toInt64) ∧ ∃ cs, mInv n' k' v2 cs)) := by
  have hn := hI.1
  have hk := hI.2.1
  have hm1 := hI.2.2.1
  have hm2 := hI.2.2.2.1
  rcases mi_or x0 (n := n) (by omega) with ⟨a0, h0, rfl⟩ | hb0
  · skip
    by_cases hfull : k = 20
    · skip
      refine ⟨1, 6, by decide, by decide, mMi_w (x_L_seal2 l hst G cy ad n k v o hn hk sz a0 (by omega) (by omega)) (fun r u h => ?_)⟩
      obtain ⟨rfl, rfl⟩ := h
      refine ⟨2, n, k, ad, v, o, by decide, hn, hk, rfl, rfl, rfl, rfl, rfl, fun sz' => mMi_w (x_X3_seal2 l G cy ad n k n k v o hn hk sz' hm1 hm2 a0 (by omega) (by omega)) (fun r2 u2 h9 => ?_)⟩
      obtain ⟨_, v2, rfl, hq⟩ := h9
      exact ⟨v2, rfl, hq.2.1, fun h8 => absurd h8 (by decide), cs, mInv_Q hI hq⟩
    · skip
      refine ⟨1, 3, by decide, by decide, mMi_w (c_L_seal l G cy ad n k v o hn hk sz a0 (by omega) (by omega)) (fun r u h => ?_)⟩
      obtain ⟨rfl, ad9, rfl, hj9⟩ := h
      have hv : ∀ z, 4 ≤ z → z < 100 → (va_up v (400 + k) (mV3 (nI a0) (v (300 + a0) 1) (v (100 + a0) 2))) z = v z := fun z h4 hz => va_up_n v _ (by omega)
      refine ⟨0, n, (k + 1), ad9, _, _, by decide, by omega, by omega, rfl, rfl, hj9 0 (Or.inl (by decide)), hj9 4 (Or.inl (by decide)), hj9 12 (Or.inl (by decide)), fun sz' => mMi_w (c_X3_seal l G cy ad9 n (k + 1) n k (va_up v (400 + k) (mV3 (nI a0) (v (300 + a0) 1) (v (100 + a0) 2))) _ hn hk sz' ((congrFun (hv 4 (by decide) (by decide)) 1).trans hm1) ((congrFun (hv 4 (by decide) (by decide)) 2).trans hm2) a0 (by omega) (by omega) (hv 5 (by decide) (by decide)) (hv 6 (by decide) (by decide)) (hv 7 (by decide) (by decide)) (hv 8 (by decide) (by decide)) (hv 9 (by decide) (by decide))) (fun r2 u2 h9 => ?_)⟩
      obtain ⟨rfl, v2, rfl, hq⟩ := h9
      exact ⟨v2, rfl, hq.2.1, fun _ => (if_pos rfl).trans (congrArg Int32.toInt64 (rfl)), _, mInv_seal hI h0 (by omega) hq⟩
  · skip
    refine ⟨1, 6, by decide, by decide, mMi_w (x_L_seal1 l hst G cy ad n k v o hn hk sz x0 hb0) (fun r u h => ?_)⟩
    obtain ⟨rfl, rfl⟩ := h
    refine ⟨1, n, k, ad, v, o, by decide, hn, hk, rfl, rfl, rfl, rfl, rfl, fun sz' => mMi_w (x_X3_seal1 l G cy ad n k n k v o hn hk sz' hm1 hm2 x0 hb0) (fun r2 u2 h9 => ?_)⟩
    obtain ⟨_, v2, rfl, hq⟩ := h9
    exact ⟨v2, rfl, hq.2.1, fun h8 => absurd h8 (by decide), cs, mInv_Q hI hq⟩

set_option maxHeartbeats 4000000 in
set_option maxRecDepth 100000 in
set_option linter.constructorNameAsVariable false in
theorem ok_about (l : Launch) (hst : l.stackTraces = false) (G : va_G) (cy : Nat → ClassId) (ad : Nat → Nat) (n k : Nat) (v : Nat → Nat → Int32) (o : Nat → Int64) (cs : Nat → Nat) (hI : mInv n k v cs) (sz : Nat) (x0 x1 : Int32) : ∃ mc ms : Nat, mc ≤ 4 ∧ ms ≤ 60 ∧ mMi l yL_about wsL_about ({ frames := 9, cells := mc, slots := ms, locals := 180 }) G cy ad (Sy cy ad n k v o) sz [.ref (ad 0), .int x0, .int x1, .ref (ad 12)] mc ms (fun (r : Int32) u => ∃ (t n' k' : Nat) (ad' : Nat → Nat) (v' : Nat → Nat → Int32) (o' : Nat → Int64), t ≤ 2 ∧ n' ≤ 6 ∧ k' ≤ 20 ∧ r = nI t ∧ u = (ad', Sy cy ad' n' k' v' o') ∧ ad' 0 = ad 0 ∧ ad' 4 = ad 4 ∧ ad' 12 = ad 12 ∧ ∀ sz' : Nat, mMi l yX3_about wsX3_about ({ frames := 9, cells := 0, slots := 0, locals := 180 }) G cy ad' (Sy cy ad' n' k' v' o') sz' [.ref (ad' 4), .int x0, .int x1] 0 0 (fun (r2 : Int32) u2 => ∃ v2 : Nat → Nat → Int32, u2 = (ad', Sy cy ad' n' k' v2 o') ∧ v2 4 0 = nI t ∧ (t = 0 → o' 0 = r2.toInt64) ∧ ∃ cs, mInv n' k' v2 cs)) := by
  have hn := hI.1
  have hk := hI.2.1
  have hm1 := hI.2.2.1
  have hm2 := hI.2.2.2.1
  rcases mi_or x0 (n := k) (by omega) with ⟨a0, h0, rfl⟩ | hb0
  · skip
    rcases mi_or x1 (n := 4) (by omega) with ⟨a1, h1, rfl⟩ | hb1
    · skip
      refine ⟨0, 0, by decide, by decide, mMi_w (c_L_about l G cy ad n k v o hn hk sz a0 (by omega) a1 (by omega) (cs a0) (mInv_sel hI a0 h0).1 (mInv_sel hI a0 h0).2.2.1) (fun r u h => ?_)⟩
      obtain ⟨rfl, rfl⟩ := h
      have hv : ∀ z, 4 ≤ z → (z < 100 ∨ 400 ≤ z) → v z = v z := fun z h4 hz => rfl
      refine ⟨0, n, k, ad, _, _, by decide, by omega, by omega, rfl, rfl, rfl, rfl, rfl, fun sz' => mMi_w (c_X3_about l G cy ad n k n k v _ hn hk sz' ((congrFun (hv 4 (by decide) (by omega)) 1).trans hm1) ((congrFun (hv 4 (by decide) (by omega)) 2).trans hm2) a0 a1 (by omega) (by omega) (hv 6 (by decide) (by omega)) (hv 7 (by decide) (by omega)) (hv 8 (by decide) (by omega)) (hv 9 (by decide) (by omega)) (cs a0) (mInv_sel hI a0 h0).1 (mInv_sel hI a0 h0).2.1) (fun r2 u2 h9 => ?_)⟩
      obtain ⟨rfl, v2, rfl, hq⟩ := h9
      exact ⟨v2, rfl, hq.2.1, fun _ => (if_pos rfl).trans (congrArg Int32.toInt64 (mAbout_eq (mInv_agr hI) h0 (mInv_sel hI a0 h0).1 a1)), _, mInv_Q hI hq⟩
    · skip
      refine ⟨1, 6, by decide, by decide, mMi_w (x_L_about2 l hst G cy ad n k v o hn hk sz a0 (by omega) x1 hb1) (fun r u h => ?_)⟩
      obtain ⟨rfl, rfl⟩ := h
      refine ⟨1, n, k, ad, v, o, by decide, hn, hk, rfl, rfl, rfl, rfl, rfl, fun sz' => mMi_w (x_X3_about2 l G cy ad n k n k v o hn hk sz' hm1 hm2 a0 (by omega) x1 hb1) (fun r2 u2 h9 => ?_)⟩
      obtain ⟨_, v2, rfl, hq⟩ := h9
      exact ⟨v2, rfl, hq.2.1, fun h8 => absurd h8 (by decide), cs, mInv_Q hI hq⟩
  · skip
    refine ⟨1, 6, by decide, by decide, mMi_w (x_L_about1 l hst G cy ad n k v o hn hk sz x0 hb0 x1) (fun r u h => ?_)⟩
    obtain ⟨rfl, rfl⟩ := h
    refine ⟨1, n, k, ad, v, o, by decide, hn, hk, rfl, rfl, rfl, rfl, rfl, fun sz' => mMi_w (x_X3_about1 l G cy ad n k n k v o hn hk sz' hm1 hm2 x0 hb0 x1) (fun r2 u2 h9 => ?_)⟩
    obtain ⟨_, v2, rfl, hq⟩ := h9
    exact ⟨v2, rfl, hq.2.1, fun h8 => absurd h8 (by decide), cs, mInv_Q hI hq⟩

set_option maxHeartbeats 4000000 in
set_option maxRecDepth 100000 in
set_option linter.constructorNameAsVariable false in
theorem ok_proof (l : Launch) (hst : l.stackTraces = false) (G : va_G) (cy : Nat → ClassId) (ad : Nat → Nat) (n k : Nat) (v : Nat → Nat → Int32) (o : Nat → Int64) (cs : Nat → Nat) (hI : mInv n k v cs) (sz : Nat) (x0 x1 x2 : Int32) : ∃ mc ms : Nat, mc ≤ 4 ∧ ms ≤ 60 ∧ mMi l yL_proof wsL_proof ({ frames := 9, cells := mc, slots := ms, locals := 180 }) G cy ad (Sy cy ad n k v o) sz [.ref (ad 0), .int x0, .int x1, .int x2, .ref (ad 12)] mc ms (fun (r : Int32) u => ∃ (t n' k' : Nat) (ad' : Nat → Nat) (v' : Nat → Nat → Int32) (o' : Nat → Int64), t ≤ 2 ∧ n' ≤ 6 ∧ k' ≤ 20 ∧ r = nI t ∧ u = (ad', Sy cy ad' n' k' v' o') ∧ ad' 0 = ad 0 ∧ ad' 4 = ad 4 ∧ ad' 12 = ad 12 ∧ ∀ sz' : Nat, mMi l yX3_proof wsX3_proof ({ frames := 9, cells := 0, slots := 0, locals := 180 }) G cy ad' (Sy cy ad' n' k' v' o') sz' [.ref (ad' 4), .int x0, .int x1, .int x2] 0 0 (fun (r2 : Int32) u2 => ∃ v2 : Nat → Nat → Int32, u2 = (ad', Sy cy ad' n' k' v2 o') ∧ v2 4 0 = nI t ∧ (t = 0 → o' 0 = r2.toInt64) ∧ ∃ cs, mInv n' k' v2 cs)) := by
  have hn := hI.1
  have hk := hI.2.1
  have hm1 := hI.2.2.1
  have hm2 := hI.2.2.2.1
  rcases mi_or x0 (n := n) (by omega) with ⟨a0, h0, rfl⟩ | hb0
  · skip
    rcases mi_or x1 (n := 16) (by omega) with ⟨a1, h1, rfl⟩ | hb1
    · skip
      rcases mi_or x2 (n := 4) (by omega) with ⟨a2, h2, rfl⟩ | hb2
      · skip
        refine ⟨0, 0, by decide, by decide, mMi_w (c_L_proof l G cy ad n k v o hn hk sz a0 (by omega) a1 a2 (by omega) (by omega)) (fun r u h => ?_)⟩
        obtain ⟨rfl, rfl⟩ := h
        have hv : ∀ z, 4 ≤ z → (z < 100 ∨ 400 ≤ z) → v z = v z := fun z h4 hz => rfl
        refine ⟨0, n, k, ad, _, _, by decide, by omega, by omega, rfl, rfl, rfl, rfl, rfl, fun sz' => mMi_w (c_X3_proof l G cy ad n k n k v _ hn hk sz' ((congrFun (hv 4 (by decide) (by omega)) 1).trans hm1) ((congrFun (hv 4 (by decide) (by omega)) 2).trans hm2) a0 a1 (by omega) (by omega) a2 (by omega) (hv 5 (by decide) (by omega))) (fun r2 u2 h9 => ?_)⟩
        obtain ⟨rfl, v2, rfl, hq⟩ := h9
        exact ⟨v2, rfl, hq.2.1, fun _ => (if_pos rfl).trans (congrArg Int32.toInt64 (mRel_S (mInv_rel hI) h0 _ (mBes_pos a1 h1 a2 h2) (mBes_lt a1 h1 a2 h2))), _, mInv_Q hI hq⟩
      · skip
        refine ⟨1, 6, by decide, by decide, mMi_w (x_L_proof3 l hst G cy ad n k v o hn hk sz a0 (by omega) a1 (by omega) x2 hb2) (fun r u h => ?_)⟩
        obtain ⟨rfl, rfl⟩ := h
        refine ⟨1, n, k, ad, v, o, by decide, hn, hk, rfl, rfl, rfl, rfl, rfl, fun sz' => mMi_w (x_X3_proof3 l G cy ad n k n k v o hn hk sz' hm1 hm2 a0 a1 (by omega) (by omega) x2 hb2) (fun r2 u2 h9 => ?_)⟩
        obtain ⟨_, v2, rfl, hq⟩ := h9
        exact ⟨v2, rfl, hq.2.1, fun h8 => absurd h8 (by decide), cs, mInv_Q hI hq⟩
    · skip
      refine ⟨1, 6, by decide, by decide, mMi_w (x_L_proof2 l hst G cy ad n k v o hn hk sz a0 (by omega) x1 hb1 x2) (fun r u h => ?_)⟩
      obtain ⟨rfl, rfl⟩ := h
      refine ⟨1, n, k, ad, v, o, by decide, hn, hk, rfl, rfl, rfl, rfl, rfl, fun sz' => mMi_w (x_X3_proof2 l G cy ad n k n k v o hn hk sz' hm1 hm2 a0 (by omega) x1 hb1 x2) (fun r2 u2 h9 => ?_)⟩
      obtain ⟨_, v2, rfl, hq⟩ := h9
      exact ⟨v2, rfl, hq.2.1, fun h8 => absurd h8 (by decide), cs, mInv_Q hI hq⟩
  · skip
    refine ⟨1, 6, by decide, by decide, mMi_w (x_L_proof1 l hst G cy ad n k v o hn hk sz x0 hb0 x1 x2) (fun r u h => ?_)⟩
    obtain ⟨rfl, rfl⟩ := h
    refine ⟨1, n, k, ad, v, o, by decide, hn, hk, rfl, rfl, rfl, rfl, rfl, fun sz' => mMi_w (x_X3_proof1 l G cy ad n k n k v o hn hk sz' hm1 hm2 x0 hb0 x1 x2) (fun r2 u2 h9 => ?_)⟩
    obtain ⟨_, v2, rfl, hq⟩ := h9
    exact ⟨v2, rfl, hq.2.1, fun h8 => absurd h8 (by decide), cs, mInv_Q hI hq⟩

set_option maxHeartbeats 4000000 in
set_option maxRecDepth 100000 in
set_option linter.constructorNameAsVariable false in
theorem ok_comes (l : Launch) (hst : l.stackTraces = false) (G : va_G) (cy : Nat → ClassId) (ad : Nat → Nat) (n k : Nat) (v : Nat → Nat → Int32) (o : Nat → Int64) (cs : Nat → Nat) (hI : mInv n k v cs) (sz : Nat) (x0 x1 x2 x3 x4 x5 : Int32) : ∃ mc ms : Nat, mc ≤ 4 ∧ ms ≤ 60 ∧ mMi l yL_comes wsL_comes ({ frames := 10, cells := mc, slots := ms, locals := 220 }) G cy ad (Sy cy ad n k v o) sz [.ref (ad 0), .int x0, .int x1, .int x2, .int x3, .int x4, .int x5, .ref (ad 12)] mc ms (fun (r : Int32) u => ∃ (t n' k' : Nat) (ad' : Nat → Nat) (v' : Nat → Nat → Int32) (o' : Nat → Int64), t ≤ 2 ∧ n' ≤ 6 ∧ k' ≤ 20 ∧ r = nI t ∧ u = (ad', Sy cy ad' n' k' v' o') ∧ ad' 0 = ad 0 ∧ ad' 4 = ad 4 ∧ ad' 12 = ad 12 ∧ ∀ sz' : Nat, mMi l yX3_comes wsX3_comes ({ frames := 10, cells := 0, slots := 0, locals := 220 }) G cy ad' (Sy cy ad' n' k' v' o') sz' [.ref (ad' 4), .int x0, .int x1, .int x2, .int x3, .int x4, .int x5] 0 0 (fun (r2 : Int32) u2 => ∃ v2 : Nat → Nat → Int32, u2 = (ad', Sy cy ad' n' k' v2 o') ∧ v2 4 0 = nI t ∧ (t = 0 → o' 0 = r2.toInt64) ∧ ∃ cs, mInv n' k' v2 cs)) := by
  have hn := hI.1
  have hk := hI.2.1
  have hm1 := hI.2.2.1
  have hm2 := hI.2.2.2.1
  rcases mi_or x0 (n := 16) (by omega) with ⟨a0, h0, rfl⟩ | hb0
  · skip
    rcases mi_or x1 (n := 10000) (by omega) with ⟨a1, h1, rfl⟩ | hb1
    · skip
      rcases mi_or x2 (n := 997) (by omega) with ⟨a2, h2, rfl⟩ | hb2
      · skip
        rcases mi_or x3 (n := 997) (by omega) with ⟨a3, h3, rfl⟩ | hb3
        · skip
          rcases mi_or x4 (n := 997) (by omega) with ⟨a4, h4, rfl⟩ | hb4
          · skip
            rcases mi_or x5 (n := 997) (by omega) with ⟨a5, h5, rfl⟩ | hb5
            · skip
              refine ⟨0, 0, by decide, by decide, mMi_w (c_L_comes l G cy ad n k v o hn hk sz a0 a1 a2 a3 a4 a5 (by omega) (by omega) (by omega) (by omega) (by omega) (by omega)) (fun r u h => ?_)⟩
              obtain ⟨rfl, rfl⟩ := h
              have hv : ∀ z, 4 ≤ z → (z < 100 ∨ 400 ≤ z) → v z = v z := fun z h4 hz => rfl
              refine ⟨0, n, k, ad, _, _, by decide, by omega, by omega, rfl, rfl, rfl, rfl, rfl, fun sz' => mMi_w (c_X3_comes l G cy ad n k n k v _ hn hk sz' ((congrFun (hv 4 (by decide) (by omega)) 1).trans hm1) ((congrFun (hv 4 (by decide) (by omega)) 2).trans hm2) a0 a1 a2 a3 a4 a5 (by omega) (by omega) (by omega) (by omega) (by omega) (by omega)) (fun r2 u2 h9 => ?_)⟩
              obtain ⟨rfl, v2, rfl, hq⟩ := h9
              exact ⟨v2, rfl, hq.2.1, fun _ => (if_pos rfl).trans (congrArg Int32.toInt64 (rfl)), _, mInv_Q hI hq⟩
            · skip
              refine ⟨1, 6, by decide, by decide, mMi_w (x_L_comes6 l hst G cy ad n k v o hn hk sz a0 (by omega) a1 (by omega) a2 (by omega) a3 (by omega) a4 (by omega) x5 hb5) (fun r u h => ?_)⟩
              obtain ⟨rfl, rfl⟩ := h
              refine ⟨2, n, k, ad, v, o, by decide, hn, hk, rfl, rfl, rfl, rfl, rfl, fun sz' => mMi_w (x_X3_comes6 l G cy ad n k n k v o hn hk sz' hm1 hm2 a0 (by omega) a1 (by omega) a2 (by omega) a3 (by omega) a4 (by omega) x5 hb5) (fun r2 u2 h9 => ?_)⟩
              obtain ⟨_, v2, rfl, hq⟩ := h9
              exact ⟨v2, rfl, hq.2.1, fun h8 => absurd h8 (by decide), cs, mInv_Q hI hq⟩
          · skip
            refine ⟨1, 6, by decide, by decide, mMi_w (x_L_comes5 l hst G cy ad n k v o hn hk sz a0 (by omega) a1 (by omega) a2 (by omega) a3 (by omega) x4 hb4 x5) (fun r u h => ?_)⟩
            obtain ⟨rfl, rfl⟩ := h
            refine ⟨2, n, k, ad, v, o, by decide, hn, hk, rfl, rfl, rfl, rfl, rfl, fun sz' => mMi_w (x_X3_comes5 l G cy ad n k n k v o hn hk sz' hm1 hm2 a0 (by omega) a1 (by omega) a2 (by omega) a3 (by omega) x4 hb4 x5) (fun r2 u2 h9 => ?_)⟩
            obtain ⟨_, v2, rfl, hq⟩ := h9
            exact ⟨v2, rfl, hq.2.1, fun h8 => absurd h8 (by decide), cs, mInv_Q hI hq⟩
        · skip
          refine ⟨1, 6, by decide, by decide, mMi_w (x_L_comes4 l hst G cy ad n k v o hn hk sz a0 (by omega) a1 (by omega) a2 (by omega) x3 hb3 x4 x5) (fun r u h => ?_)⟩
          obtain ⟨rfl, rfl⟩ := h
          refine ⟨2, n, k, ad, v, o, by decide, hn, hk, rfl, rfl, rfl, rfl, rfl, fun sz' => mMi_w (x_X3_comes4 l G cy ad n k n k v o hn hk sz' hm1 hm2 a0 (by omega) a1 (by omega) a2 (by omega) x3 hb3 x4 x5) (fun r2 u2 h9 => ?_)⟩
          obtain ⟨_, v2, rfl, hq⟩ := h9
          exact ⟨v2, rfl, hq.2.1, fun h8 => absurd h8 (by decide), cs, mInv_Q hI hq⟩
      · skip
        refine ⟨1, 6, by decide, by decide, mMi_w (x_L_comes3 l hst G cy ad n k v o hn hk sz a0 (by omega) a1 (by omega) x2 hb2 x3 x4 x5) (fun r u h => ?_)⟩
        obtain ⟨rfl, rfl⟩ := h
        refine ⟨2, n, k, ad, v, o, by decide, hn, hk, rfl, rfl, rfl, rfl, rfl, fun sz' => mMi_w (x_X3_comes3 l G cy ad n k n k v o hn hk sz' hm1 hm2 a0 (by omega) a1 (by omega) x2 hb2 x3 x4 x5) (fun r2 u2 h9 => ?_)⟩
        obtain ⟨_, v2, rfl, hq⟩ := h9
        exact ⟨v2, rfl, hq.2.1, fun h8 => absurd h8 (by decide), cs, mInv_Q hI hq⟩
    · skip
      refine ⟨1, 6, by decide, by decide, mMi_w (x_L_comes2 l hst G cy ad n k v o hn hk sz a0 (by omega) x1 hb1 x2 x3 x4 x5) (fun r u h => ?_)⟩
      obtain ⟨rfl, rfl⟩ := h
      refine ⟨2, n, k, ad, v, o, by decide, hn, hk, rfl, rfl, rfl, rfl, rfl, fun sz' => mMi_w (x_X3_comes2 l G cy ad n k n k v o hn hk sz' hm1 hm2 a0 (by omega) x1 hb1 x2 x3 x4 x5) (fun r2 u2 h9 => ?_)⟩
      obtain ⟨_, v2, rfl, hq⟩ := h9
      exact ⟨v2, rfl, hq.2.1, fun h8 => absurd h8 (by decide), cs, mInv_Q hI hq⟩
  · skip
    refine ⟨1, 6, by decide, by decide, mMi_w (x_L_comes1 l hst G cy ad n k v o hn hk sz x0 hb0 x1 x2 x3 x4 x5) (fun r u h => ?_)⟩
    obtain ⟨rfl, rfl⟩ := h
    refine ⟨1, n, k, ad, v, o, by decide, hn, hk, rfl, rfl, rfl, rfl, rfl, fun sz' => mMi_w (x_X3_comes1 l G cy ad n k n k v o hn hk sz' hm1 hm2 x0 hb0 x1 x2 x3 x4 x5) (fun r2 u2 h9 => ?_)⟩
    obtain ⟨_, v2, rfl, hq⟩ := h9
    exact ⟨v2, rfl, hq.2.1, fun h8 => absurd h8 (by decide), cs, mInv_Q hI hq⟩

set_option maxHeartbeats 4000000 in
set_option maxRecDepth 100000 in
set_option linter.constructorNameAsVariable false in
theorem ok_proves (l : Launch) (hst : l.stackTraces = false) (G : va_G) (cy : Nat → ClassId) (ad : Nat → Nat) (n k : Nat) (v : Nat → Nat → Int32) (o : Nat → Int64) (cs : Nat → Nat) (hI : mInv n k v cs) (sz : Nat) (x0 x1 x2 : Int32) : ∃ mc ms : Nat, mc ≤ 4 ∧ ms ≤ 60 ∧ mMi l yL_proves wsL_proves ({ frames := 10, cells := mc, slots := ms, locals := 220 }) G cy ad (Sy cy ad n k v o) sz [.ref (ad 0), .int x0, .int x1, .int x2, .ref (ad 12)] mc ms (fun (r : Int32) u => ∃ (t n' k' : Nat) (ad' : Nat → Nat) (v' : Nat → Nat → Int32) (o' : Nat → Int64), t ≤ 2 ∧ n' ≤ 6 ∧ k' ≤ 20 ∧ r = nI t ∧ u = (ad', Sy cy ad' n' k' v' o') ∧ ad' 0 = ad 0 ∧ ad' 4 = ad 4 ∧ ad' 12 = ad 12 ∧ ∀ sz' : Nat, mMi l yX3_proves wsX3_proves ({ frames := 10, cells := 0, slots := 0, locals := 220 }) G cy ad' (Sy cy ad' n' k' v' o') sz' [.ref (ad' 4), .int x0, .int x1, .int x2] 0 0 (fun (r2 : Int32) u2 => ∃ v2 : Nat → Nat → Int32, u2 = (ad', Sy cy ad' n' k' v2 o') ∧ v2 4 0 = nI t ∧ (t = 0 → o' 0 = (if r2 = 0 then (0 : Int64) else 1)) ∧ ∃ cs, mInv n' k' v2 cs)) := by
  have hn := hI.1
  have hk := hI.2.1
  have hm1 := hI.2.2.1
  have hm2 := hI.2.2.2.1
  rcases mi_or x0 (n := k) (by omega) with ⟨a0, h0, rfl⟩ | hb0
  · skip
    rcases mi_or x1 (n := 16) (by omega) with ⟨a1, h1, rfl⟩ | hb1
    · skip
      rcases mi_or x2 (n := 10000) (by omega) with ⟨a2, h2, rfl⟩ | hb2
      · skip
        refine ⟨0, 0, by decide, by decide, mMi_w (c_L_proves l G cy ad n k v o hn hk sz a0 (by omega) a1 a2 (by omega) (by omega) (cs a0) (mInv_sel hI a0 h0).1 (mInv_sel hI a0 h0).2.2.1) (fun r u h => ?_)⟩
        obtain ⟨rfl, rfl⟩ := h
        have hv : ∀ z, 4 ≤ z → (z < 100 ∨ 400 ≤ z) → v z = v z := fun z h4 hz => rfl
        refine ⟨0, n, k, ad, _, _, by decide, by omega, by omega, rfl, rfl, rfl, rfl, rfl, fun sz' => mMi_w (c_X3_proves l G cy ad n k n k v _ hn hk sz' ((congrFun (hv 4 (by decide) (by omega)) 1).trans hm1) ((congrFun (hv 4 (by decide) (by omega)) 2).trans hm2) a0 (by omega) a1 a2 (cs a0) (by omega) (by omega) (mInv_sel hI a0 h0).1 (hv 5 (by decide) (by omega)) (hv 7 (by decide) (by omega)) (hv 8 (by decide) (by omega)) (mInv_sel hI a0 h0).2.1) (fun r2 u2 h9 => ?_)⟩
        obtain ⟨rfl, v2, rfl, hq⟩ := h9
        exact ⟨v2, rfl, hq.2.1, fun _ => (if_pos rfl).trans (mPvl (mPv_ans hI (mInv_sel hI a0 h0).1 h0 h1 (nI a2))), _, mInv_Q hI hq⟩
      · skip
        refine ⟨1, 6, by decide, by decide, mMi_w (x_L_proves3 l hst G cy ad n k v o hn hk sz a0 (by omega) a1 (by omega) x2 hb2) (fun r u h => ?_)⟩
        obtain ⟨rfl, rfl⟩ := h
        refine ⟨2, n, k, ad, v, o, by decide, hn, hk, rfl, rfl, rfl, rfl, rfl, fun sz' => mMi_w (x_X3_proves3 l G cy ad n k n k v o hn hk sz' hm1 hm2 a0 (by omega) a1 (by omega) x2 hb2) (fun r2 u2 h9 => ?_)⟩
        obtain ⟨_, v2, rfl, hq⟩ := h9
        exact ⟨v2, rfl, hq.2.1, fun h8 => absurd h8 (by decide), cs, mInv_Q hI hq⟩
    · skip
      refine ⟨1, 6, by decide, by decide, mMi_w (x_L_proves2 l hst G cy ad n k v o hn hk sz a0 (by omega) x1 hb1 x2) (fun r u h => ?_)⟩
      obtain ⟨rfl, rfl⟩ := h
      refine ⟨1, n, k, ad, v, o, by decide, hn, hk, rfl, rfl, rfl, rfl, rfl, fun sz' => mMi_w (x_X3_proves2 l G cy ad n k n k v o hn hk sz' hm1 hm2 a0 (by omega) x1 hb1 x2) (fun r2 u2 h9 => ?_)⟩
      obtain ⟨_, v2, rfl, hq⟩ := h9
      exact ⟨v2, rfl, hq.2.1, fun h8 => absurd h8 (by decide), cs, mInv_Q hI hq⟩
  · skip
    refine ⟨1, 6, by decide, by decide, mMi_w (x_L_proves1 l hst G cy ad n k v o hn hk sz x0 hb0 x1 x2) (fun r u h => ?_)⟩
    obtain ⟨rfl, rfl⟩ := h
    refine ⟨1, n, k, ad, v, o, by decide, hn, hk, rfl, rfl, rfl, rfl, rfl, fun sz' => mMi_w (x_X3_proves1 l G cy ad n k n k v o hn hk sz' hm1 hm2 x0 hb0 x1 x2) (fun r2 u2 h9 => ?_)⟩
    obtain ⟨_, v2, rfl, hq⟩ := h9
    exact ⟨v2, rfl, hq.2.1, fun h8 => absurd h8 (by decide), cs, mInv_Q hI hq⟩

set_option maxHeartbeats 4000000 in
set_option maxRecDepth 100000 in
set_option linter.constructorNameAsVariable false in
theorem ok_differ (l : Launch) (hst : l.stackTraces = false) (G : va_G) (cy : Nat → ClassId) (ad : Nat → Nat) (n k : Nat) (v : Nat → Nat → Int32) (o : Nat → Int64) (cs : Nat → Nat) (hI : mInv n k v cs) (sz : Nat) (x0 x1 : Int32) : ∃ mc ms : Nat, mc ≤ 4 ∧ ms ≤ 60 ∧ mMi l yL_differ wsL_differ ({ frames := 11, cells := mc, slots := ms, locals := 260 }) G cy ad (Sy cy ad n k v o) sz [.ref (ad 0), .int x0, .int x1, .ref (ad 12)] mc ms (fun (r : Int32) u => ∃ (t n' k' : Nat) (ad' : Nat → Nat) (v' : Nat → Nat → Int32) (o' : Nat → Int64), t ≤ 2 ∧ n' ≤ 6 ∧ k' ≤ 20 ∧ r = nI t ∧ u = (ad', Sy cy ad' n' k' v' o') ∧ ad' 0 = ad 0 ∧ ad' 4 = ad 4 ∧ ad' 12 = ad 12 ∧ ∀ sz' : Nat, mMi l yX3_differ wsX3_differ ({ frames := 13, cells := 0, slots := 0, locals := 340 }) G cy ad' (Sy cy ad' n' k' v' o') sz' [.ref (ad' 4), .int x0, .int x1] 0 0 (fun (r2 : Int32) u2 => ∃ v2 : Nat → Nat → Int32, u2 = (ad', Sy cy ad' n' k' v2 o') ∧ v2 4 0 = nI t ∧ (t = 0 → o' 0 = r2.toInt64) ∧ ∃ cs, mInv n' k' v2 cs)) := by
  have hn := hI.1
  have hk := hI.2.1
  have hm1 := hI.2.2.1
  have hm2 := hI.2.2.2.1
  rcases mi_or x0 (n := n) (by omega) with ⟨a0, h0, rfl⟩ | hb0
  · skip
    rcases mi_or x1 (n := n) (by omega) with ⟨a1, h1, rfl⟩ | hb1
    · skip
      refine ⟨0, 0, by decide, by decide, mMi_w (c_L_differ l G cy ad n k v o hn hk sz a0 a1 (by omega) (by omega)) (fun r u h => ?_)⟩
      obtain ⟨rfl, rfl⟩ := h
      have hv : ∀ z, 4 ≤ z → (z < 100 ∨ 400 ≤ z) → v z = v z := fun z h4 hz => rfl
      refine ⟨0, n, k, ad, _, _, by decide, by omega, by omega, rfl, rfl, rfl, rfl, rfl, fun sz' => mMi_w (c_X3_differ l G cy ad n k n k v _ hn hk sz' ((congrFun (hv 4 (by decide) (by omega)) 1).trans hm1) ((congrFun (hv 4 (by decide) (by omega)) 2).trans hm2) a0 a1 (by omega) (by omega) (hv 5 (by decide) (by omega))) (fun r2 u2 h9 => ?_)⟩
      obtain ⟨rfl, v2, rfl, hq⟩ := h9
      exact ⟨v2, rfl, hq.2.1, fun _ => (if_pos rfl).trans (congrArg Int32.toInt64 (congrArg nI (mDf_ans hI h0 h1))), _, mInv_Q hI hq⟩
    · skip
      refine ⟨1, 6, by decide, by decide, mMi_w (x_L_differ2 l hst G cy ad n k v o hn hk sz a0 (by omega) x1 hb1) (fun r u h => ?_)⟩
      obtain ⟨rfl, rfl⟩ := h
      refine ⟨1, n, k, ad, v, o, by decide, hn, hk, rfl, rfl, rfl, rfl, rfl, fun sz' => mMi_w (x_X3_differ2 l G cy ad n k n k v o hn hk sz' hm1 hm2 a0 (by omega) x1 hb1) (fun r2 u2 h9 => ?_)⟩
      obtain ⟨_, v2, rfl, hq⟩ := h9
      exact ⟨v2, rfl, hq.2.1, fun h8 => absurd h8 (by decide), cs, mInv_Q hI hq⟩
  · skip
    refine ⟨1, 6, by decide, by decide, mMi_w (x_L_differ1 l hst G cy ad n k v o hn hk sz x0 hb0 x1) (fun r u h => ?_)⟩
    obtain ⟨rfl, rfl⟩ := h
    refine ⟨1, n, k, ad, v, o, by decide, hn, hk, rfl, rfl, rfl, rfl, rfl, fun sz' => mMi_w (x_X3_differ1 l G cy ad n k n k v o hn hk sz' hm1 hm2 x0 hb0 x1) (fun r2 u2 h9 => ?_)⟩
    obtain ⟨_, v2, rfl, hq⟩ := h9
    exact ⟨v2, rfl, hq.2.1, fun h8 => absurd h8 (by decide), cs, mInv_Q hI hq⟩

set_option maxHeartbeats 4000000 in
set_option maxRecDepth 100000 in
set_option linter.constructorNameAsVariable false in
theorem ok_looks (l : Launch) (hst : l.stackTraces = false) (G : va_G) (cy : Nat → ClassId) (ad : Nat → Nat) (n k : Nat) (v : Nat → Nat → Int32) (o : Nat → Int64) (cs : Nat → Nat) (hI : mInv n k v cs) (sz : Nat) (x0 x1 : Int32) : ∃ mc ms : Nat, mc ≤ 4 ∧ ms ≤ 60 ∧ mMi l yL_looks wsL_looks ({ frames := 10, cells := mc, slots := ms, locals := 220 }) G cy ad (Sy cy ad n k v o) sz [.ref (ad 0), .int x0, .int x1, .ref (ad 12)] mc ms (fun (r : Int32) u => ∃ (t n' k' : Nat) (ad' : Nat → Nat) (v' : Nat → Nat → Int32) (o' : Nat → Int64), t ≤ 2 ∧ n' ≤ 6 ∧ k' ≤ 20 ∧ r = nI t ∧ u = (ad', Sy cy ad' n' k' v' o') ∧ ad' 0 = ad 0 ∧ ad' 4 = ad 4 ∧ ad' 12 = ad 12 ∧ ∀ sz' : Nat, mMi l yX3_looks wsX3_looks ({ frames := 13, cells := 0, slots := 0, locals := 340 }) G cy ad' (Sy cy ad' n' k' v' o') sz' [.ref (ad' 4), .int x0, .int x1] 0 0 (fun (r2 : Int32) u2 => ∃ v2 : Nat → Nat → Int32, u2 = (ad', Sy cy ad' n' k' v2 o') ∧ v2 4 0 = nI t ∧ (t = 0 → o' 0 = r2.toInt64) ∧ ∃ cs, mInv n' k' v2 cs)) := by
  have hn := hI.1
  have hk := hI.2.1
  have hm1 := hI.2.2.1
  have hm2 := hI.2.2.2.1
  rcases mi_or x0 (n := n) (by omega) with ⟨a0, h0, rfl⟩ | hb0
  · skip
    rcases mi_or x1 (n := n) (by omega) with ⟨a1, h1, rfl⟩ | hb1
    · skip
      refine ⟨0, 0, by decide, by decide, mMi_w (c_L_looks l G cy ad n k v o hn hk sz a0 a1 (by omega) (by omega)) (fun r u h => ?_)⟩
      obtain ⟨rfl, rfl⟩ := h
      have hv : ∀ z, 4 ≤ z → (z < 100 ∨ 400 ≤ z) → v z = v z := fun z h4 hz => rfl
      refine ⟨0, n, k, ad, _, _, by decide, by omega, by omega, rfl, rfl, rfl, rfl, rfl, fun sz' => mMi_w (c_X3_looks l G cy ad n k n k v _ hn hk sz' ((congrFun (hv 4 (by decide) (by omega)) 1).trans hm1) ((congrFun (hv 4 (by decide) (by omega)) 2).trans hm2) a0 a1 (by omega) (by omega) (hv 5 (by decide) (by omega))) (fun r2 u2 h9 => ?_)⟩
      obtain ⟨rfl, v2, rfl, hq⟩ := h9
      exact ⟨v2, rfl, hq.2.1, fun _ => (if_pos rfl).trans (congrArg Int32.toInt64 (mLk_ans hI h0 h1)), _, mInv_Q hI hq⟩
    · skip
      refine ⟨1, 6, by decide, by decide, mMi_w (x_L_looks2 l hst G cy ad n k v o hn hk sz a0 (by omega) x1 hb1) (fun r u h => ?_)⟩
      obtain ⟨rfl, rfl⟩ := h
      refine ⟨1, n, k, ad, v, o, by decide, hn, hk, rfl, rfl, rfl, rfl, rfl, fun sz' => mMi_w (x_X3_looks2 l G cy ad n k n k v o hn hk sz' hm1 hm2 a0 (by omega) x1 hb1) (fun r2 u2 h9 => ?_)⟩
      obtain ⟨_, v2, rfl, hq⟩ := h9
      exact ⟨v2, rfl, hq.2.1, fun h8 => absurd h8 (by decide), cs, mInv_Q hI hq⟩
  · skip
    refine ⟨1, 6, by decide, by decide, mMi_w (x_L_looks1 l hst G cy ad n k v o hn hk sz x0 hb0 x1) (fun r u h => ?_)⟩
    obtain ⟨rfl, rfl⟩ := h
    refine ⟨1, n, k, ad, v, o, by decide, hn, hk, rfl, rfl, rfl, rfl, rfl, fun sz' => mMi_w (x_X3_looks1 l G cy ad n k n k v o hn hk sz' hm1 hm2 x0 hb0 x1) (fun r2 u2 h9 => ?_)⟩
    obtain ⟨_, v2, rfl, hq⟩ := h9
    exact ⟨v2, rfl, hq.2.1, fun h8 => absurd h8 (by decide), cs, mInv_Q hI hq⟩

set_option maxHeartbeats 4000000 in
set_option maxRecDepth 100000 in
set_option linter.constructorNameAsVariable false in
theorem ok_mend (l : Launch) (hst : l.stackTraces = false) (G : va_G) (cy : Nat → ClassId) (ad : Nat → Nat) (n k : Nat) (v : Nat → Nat → Int32) (o : Nat → Int64) (cs : Nat → Nat) (hI : mInv n k v cs) (sz : Nat) (x0 x1 : Int32) : ∃ mc ms : Nat, mc ≤ 4 ∧ ms ≤ 60 ∧ mMi l yL_mend wsL_mend ({ frames := 11, cells := mc, slots := ms, locals := 260 }) G cy ad (Sy cy ad n k v o) sz [.ref (ad 0), .int x0, .int x1, .ref (ad 12)] mc ms (fun (r : Int32) u => ∃ (t n' k' : Nat) (ad' : Nat → Nat) (v' : Nat → Nat → Int32) (o' : Nat → Int64), t ≤ 2 ∧ n' ≤ 6 ∧ k' ≤ 20 ∧ r = nI t ∧ u = (ad', Sy cy ad' n' k' v' o') ∧ ad' 0 = ad 0 ∧ ad' 4 = ad 4 ∧ ad' 12 = ad 12 ∧ ∀ sz' : Nat, mMi l yX3_mend wsX3_mend ({ frames := 13, cells := 0, slots := 0, locals := 340 }) G cy ad' (Sy cy ad' n' k' v' o') sz' [.ref (ad' 4), .int x0, .int x1] 0 0 (fun (r2 : Int32) u2 => ∃ v2 : Nat → Nat → Int32, u2 = (ad', Sy cy ad' n' k' v2 o') ∧ v2 4 0 = nI t ∧ (t = 0 → o' 0 = r2.toInt64) ∧ ∃ cs, mInv n' k' v2 cs)) := by
  have hn := hI.1
  have hk := hI.2.1
  have hm1 := hI.2.2.1
  have hm2 := hI.2.2.2.1
  rcases mi_or x0 (n := n) (by omega) with ⟨a0, h0, rfl⟩ | hb0
  · skip
    rcases mi_or x1 (n := n) (by omega) with ⟨a1, h1, rfl⟩ | hb1
    · skip
      refine ⟨0, 0, by decide, by decide, mMi_w (c_L_mend l G cy ad n k v o hn hk sz a0 a1 (by omega) (by omega)) (fun r u h => ?_)⟩
      obtain ⟨rfl, rfl⟩ := h
      have hv : ∀ z, 4 ≤ z → (z < 100 ∨ 400 ≤ z) → (mMend v a0 a1 (mDr (mLook (v (300 + a0)) (v (300 + a1)) 15) (v (300 + a0)) (v (300 + a1)) 16) 16) z = v z := fun z h4 hz => mMend_lo v a0 a1 _ (by omega) 16 z hz
      refine ⟨0, n, k, ad, _, _, by decide, by omega, by omega, rfl, rfl, rfl, rfl, rfl, fun sz' => mMi_w (c_X3_mend l G cy ad n k n k (mMend v a0 a1 (mDr (mLook (v (300 + a0)) (v (300 + a1)) 15) (v (300 + a0)) (v (300 + a1)) 16) 16) _ hn hk sz' ((congrFun (hv 4 (by decide) (by omega)) 1).trans hm1) ((congrFun (hv 4 (by decide) (by omega)) 2).trans hm2) a0 a1 (by omega) (by omega) (hv 5 (by decide) (by omega)) (hv 6 (by decide) (by omega))) (fun r2 u2 h9 => ?_)⟩
      obtain ⟨rfl, v2, rfl, hq⟩ := h9
      exact ⟨v2, rfl, hq.2.1, fun _ => (if_pos rfl).trans (congrArg Int32.toInt64 (mMend_ans hI h0 h1)), _, (by rw [mDf_ans hI h0 h1] at hq; exact mInv_mend hI h0 h1 hq)⟩
    · skip
      refine ⟨1, 6, by decide, by decide, mMi_w (x_L_mend2 l hst G cy ad n k v o hn hk sz a0 (by omega) x1 hb1) (fun r u h => ?_)⟩
      obtain ⟨rfl, rfl⟩ := h
      refine ⟨1, n, k, ad, v, o, by decide, hn, hk, rfl, rfl, rfl, rfl, rfl, fun sz' => mMi_w (x_X3_mend2 l G cy ad n k n k v o hn hk sz' hm1 hm2 a0 (by omega) x1 hb1) (fun r2 u2 h9 => ?_)⟩
      obtain ⟨_, v2, rfl, hq⟩ := h9
      exact ⟨v2, rfl, hq.2.1, fun h8 => absurd h8 (by decide), cs, mInv_Q hI hq⟩
  · skip
    refine ⟨1, 6, by decide, by decide, mMi_w (x_L_mend1 l hst G cy ad n k v o hn hk sz x0 hb0 x1) (fun r u h => ?_)⟩
    obtain ⟨rfl, rfl⟩ := h
    refine ⟨1, n, k, ad, v, o, by decide, hn, hk, rfl, rfl, rfl, rfl, rfl, fun sz' => mMi_w (x_X3_mend1 l G cy ad n k n k v o hn hk sz' hm1 hm2 x0 hb0 x1) (fun r2 u2 h9 => ?_)⟩
    obtain ⟨_, v2, rfl, hq⟩ := h9
    exact ⟨v2, rfl, hq.2.1, fun h8 => absurd h8 (by decide), cs, mInv_Q hI hq⟩

set_option maxHeartbeats 4000000 in
set_option maxRecDepth 100000 in
set_option linter.constructorNameAsVariable false in
theorem ok_swapped (l : Launch) (hst : l.stackTraces = false) (G : va_G) (cy : Nat → ClassId) (ad : Nat → Nat) (n k : Nat) (v : Nat → Nat → Int32) (o : Nat → Int64) (cs : Nat → Nat) (hI : mInv n k v cs) (sz : Nat) (x0 : Int32) : ∃ mc ms : Nat, mc ≤ 4 ∧ ms ≤ 60 ∧ mMi l yL_swapped wsL_swapped ({ frames := 11, cells := mc, slots := ms, locals := 260 }) G cy ad (Sy cy ad n k v o) sz [.ref (ad 0), .int x0, .ref (ad 12)] mc ms (fun (r : Int32) u => ∃ (t n' k' : Nat) (ad' : Nat → Nat) (v' : Nat → Nat → Int32) (o' : Nat → Int64), t ≤ 2 ∧ n' ≤ 6 ∧ k' ≤ 20 ∧ r = nI t ∧ u = (ad', Sy cy ad' n' k' v' o') ∧ ad' 0 = ad 0 ∧ ad' 4 = ad 4 ∧ ad' 12 = ad 12 ∧ ∀ sz' : Nat, mMi l yX3_swapped wsX3_swapped ({ frames := 10, cells := 0, slots := 0, locals := 220 }) G cy ad' (Sy cy ad' n' k' v' o') sz' [.ref (ad' 4), .int x0] 0 0 (fun (r2 : Int32) u2 => ∃ v2 : Nat → Nat → Int32, u2 = (ad', Sy cy ad' n' k' v2 o') ∧ v2 4 0 = nI t ∧ (t = 0 → o' 0 = r2.toInt64) ∧ ∃ cs, mInv n' k' v2 cs)) := by
  have hn := hI.1
  have hk := hI.2.1
  have hm1 := hI.2.2.1
  have hm2 := hI.2.2.2.1
  rcases mi_or x0 (n := k) (by omega) with ⟨a0, h0, rfl⟩ | hb0
  · skip
    refine ⟨0, 0, by decide, by decide, mMi_w (c_L_swappedO l G cy ad n k v o hn hk sz a0 (by omega) (cs a0) (mInv_sel hI a0 h0).1 (mInv_sel hI a0 h0).2.2.1 (mInv_rel hI _ (mInv_sel hI a0 h0).1).2.2) (fun r u h => ?_)⟩
    obtain ⟨rfl, r9, g9, hr9, rfl⟩ := h
    have hv : ∀ z, 4 ≤ z → (z < 100 ∨ 400 ≤ z) → (va_up v 3 g9) z = v z := fun z h4 hz => va_up_n v g9 (by omega)
    refine ⟨0, n, k, ad, _, _, by decide, by omega, by omega, rfl, rfl, rfl, rfl, rfl, fun sz' => mMi_w (c_X3_swappedO l G cy ad n k n k (va_up v 3 g9) _ hn hk sz' ((congrFun (hv 4 (by decide) (by omega)) 1).trans hm1) ((congrFun (hv 4 (by decide) (by omega)) 2).trans hm2) a0 (by omega) (cs a0) (mInv_sel hI a0 h0).1 (hv 5 (by decide) (by omega)) (hv 7 (by decide) (by omega)) (hv 8 (by decide) (by omega)) (mInv_sel hI a0 h0).2.1) (fun r2 u2 h9 => ?_)⟩
    obtain ⟨hr2, v2, rfl, hq⟩ := h9
    have he := mSw_ans hI (mInv_sel hI a0 h0).1 h0 hr9 hr2
    exact ⟨v2, rfl, hq.2.1, fun _ => (if_pos rfl).trans (congrArg Int32.toInt64 (he)), _, mInv_Q (mInv_3 hI g9) hq⟩
  · skip
    refine ⟨1, 6, by decide, by decide, mMi_w (x_L_swapped1 l hst G cy ad n k v o hn hk sz x0 hb0) (fun r u h => ?_)⟩
    obtain ⟨rfl, rfl⟩ := h
    refine ⟨1, n, k, ad, v, o, by decide, hn, hk, rfl, rfl, rfl, rfl, rfl, fun sz' => mMi_w (x_X3_swapped1 l G cy ad n k n k v o hn hk sz' hm1 hm2 x0 hb0) (fun r2 u2 h9 => ?_)⟩
    obtain ⟨_, v2, rfl, hq⟩ := h9
    exact ⟨v2, rfl, hq.2.1, fun h8 => absurd h8 (by decide), cs, mInv_Q hI hq⟩

set_option maxHeartbeats 4000000 in
set_option maxRecDepth 100000 in
set_option linter.constructorNameAsVariable false in
theorem ok_count (l : Launch) (hst : l.stackTraces = false) (G : va_G) (cy : Nat → ClassId) (ad : Nat → Nat) (n k : Nat) (v : Nat → Nat → Int32) (o : Nat → Int64) (cs : Nat → Nat) (hI : mInv n k v cs) (sz : Nat) (x0 : Int32) : ∃ mc ms : Nat, mc ≤ 4 ∧ ms ≤ 60 ∧ mMi l yL_count wsL_count ({ frames := 11, cells := mc, slots := ms, locals := 260 }) G cy ad (Sy cy ad n k v o) sz [.ref (ad 0), .int x0, .ref (ad 12)] mc ms (fun (r : Int32) u => ∃ (t n' k' : Nat) (ad' : Nat → Nat) (v' : Nat → Nat → Int32) (o' : Nat → Int64), t ≤ 2 ∧ n' ≤ 6 ∧ k' ≤ 20 ∧ r = nI t ∧ u = (ad', Sy cy ad' n' k' v' o') ∧ ad' 0 = ad 0 ∧ ad' 4 = ad 4 ∧ ad' 12 = ad 12 ∧ ∀ sz' : Nat, mMi l yX3_count wsX3_count ({ frames := 11, cells := 0, slots := 0, locals := 260 }) G cy ad' (Sy cy ad' n' k' v' o') sz' [.ref (ad' 4), .int x0] 0 0 (fun (r2 : Int32) u2 => ∃ v2 : Nat → Nat → Int32, u2 = (ad', Sy cy ad' n' k' v2 o') ∧ v2 4 0 = nI t ∧ (t = 0 → o' 0 = r2.toInt64) ∧ ∃ cs, mInv n' k' v2 cs)) := by
  have hn := hI.1
  have hk := hI.2.1
  have hm1 := hI.2.2.1
  have hm2 := hI.2.2.2.1
  rcases mi_or x0 (n := 4) (by omega) with ⟨a0, h0, rfl⟩ | hb0
  · skip
    refine ⟨0, 0, by decide, by decide, mMi_w (c_L_count l G cy ad n k v o hn hk sz a0 (by omega)) (fun r u h => ?_)⟩
    obtain ⟨rfl, rfl⟩ := h
    have hv : ∀ z, 4 ≤ z → (z < 100 ∨ 400 ≤ z) → v z = v z := fun z h4 hz => rfl
    refine ⟨0, n, k, ad, _, _, by decide, by omega, by omega, rfl, rfl, rfl, rfl, rfl, fun sz' => mMi_w (c_X3_count l G cy ad n k n k v _ hn hk sz' ((congrFun (hv 4 (by decide) (by omega)) 1).trans hm1) ((congrFun (hv 4 (by decide) (by omega)) 2).trans hm2) a0 (by omega) (hv 5 (by decide) (by omega)) (hv 6 (by decide) (by omega))) (fun r2 u2 h9 => ?_)⟩
    obtain ⟨rfl, v2, rfl, hq⟩ := h9
    exact ⟨v2, rfl, hq.2.1, fun _ => (if_pos rfl).trans (congrArg Int32.toInt64 (mCount_eq (mInv_agr hI) a0)), _, mInv_Q hI hq⟩
  · skip
    refine ⟨1, 6, by decide, by decide, mMi_w (x_L_count1 l hst G cy ad n k v o hn hk sz x0 hb0) (fun r u h => ?_)⟩
    obtain ⟨rfl, rfl⟩ := h
    refine ⟨1, n, k, ad, v, o, by decide, hn, hk, rfl, rfl, rfl, rfl, rfl, fun sz' => mMi_w (x_X3_count1 l G cy ad n k n k v o hn hk sz' hm1 hm2 x0 hb0) (fun r2 u2 h9 => ?_)⟩
    obtain ⟨_, v2, rfl, hq⟩ := h9
    exact ⟨v2, rfl, hq.2.1, fun h8 => absurd h8 (by decide), cs, mInv_Q hI hq⟩
