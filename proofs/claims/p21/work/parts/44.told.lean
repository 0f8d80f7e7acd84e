/-! ===== a loop that makes cells in each of its turns ===== -/
theorem mx_loopc {p : Program} {l : Launch} {e : Env} {R : Room} {s : State} {m : MethodId} {args : Array Value} {below : List Frame} {meth : Method} {c : Code} {Q : State → Prop} {pc : Nat} {β : Type} (N c0 ca s0 sa : Nat) (I : Nat → β → Heap → List Loc → Array Slot → Prop)
    (hs : ∀ (n : Nat) (b : β) (H : Heap) (locs : List Loc) (ls : Array Slot), I n b H locs ls → (∀ (n' : Nat) (b' : β) (H' : Heap) (locs' : List Loc) (ls' : Array Slot), n' < n → I n' b' H' locs' ls' → W p l e R s m args below meth c H' locs' (c0 + ca * (N - n')) (s0 + sa * (N - n')) Q (F0 m pc ls' [])) → W p l e R s m args below meth c H locs (c0 + ca * (N - n)) (s0 + sa * (N - n)) Q (F0 m pc ls [])) :
    ∀ (n : Nat) (b : β) (H : Heap) (locs : List Loc) (ls : Array Slot), I n b H locs ls → W p l e R s m args below meth c H locs (c0 + ca * (N - n)) (s0 + sa * (N - n)) Q (F0 m pc ls []) := by
  intro n
  induction n using Nat.strongRecOn with
  | ind n ih =>
    intro b H locs ls h
    exact hs n b H locs ls h (fun n' b' H' locs' ls' hlt hI => ih n' hlt b' H' locs' ls' hI)
/-! ===== what the last look reckons ===== -/
theorem mz_le {a : Nat} (ha : a < 2 ^ 31) : nI a ≤ 0 ↔ a = 0 := (nI_leI ha (by decide : 0 < 2 ^ 31)).trans Nat.le_zero
theorem jDc (x y : Int32) (h : y ≠ 0) : Op.cmpValue (FP.dcmp (FP.ddiv (FP.i2d x) (FP.i2d y)) (FP.ddiv (FP.i2d x) (FP.i2d y))) CmpOp.l = 0 := by
  have h1 : FP.Core.dIsNaN (FP.Core.i2d x) = false := by
    rw [FP.Core.notNaN_iff]; exact (FP.Core.i2d_fin x).ne_nan
  have h2 : ¬ FP.Core.DZero (FP.Core.i2d y) := by
    rw [FP.Core.zero_bits2]; exact FP.Core.i2d_ne_zero h
  have h3 := FP.Core.ddiv_out h1 (FP.Core.i2d_fin y) h2
  have h4 : FP.dcmp (FP.ddiv (FP.i2d x) (FP.i2d y)) (FP.ddiv (FP.i2d x) (FP.i2d y)) = some .eq := FP.Core.dcmp_self ((FP.Core.notNaN_iff _).mp h3)
  rw [h4]
  rfl
/-- six numbers, four numbers -/
def jT (a0 a1 a2 a3 a4 a5 : Int32) : Nat → Int32 := fun z => if z = 0 then a0 else if z = 1 then a1 else if z = 2 then a2 else if z = 3 then a3 else if z = 4 then a4 else if z = 5 then a5 else 0
def jU (a0 a1 a2 a3 : Int32) : Nat → Int32 := fun z => if z = 0 then a0 else if z = 1 then a1 else if z = 2 then a2 else if z = 3 then a3 else 0
section JT
variable {a0 a1 a2 a3 a4 a5 y : Int32}
theorem jT_ini : upd (upd (upd (upd (upd (upd (fun _ => 0) 0 a0) 1 a1) 2 a2) 3 a3) 4 a4) 5 a5 = jT a0 a1 a2 a3 a4 a5 := by
  funext z
  unfold jT
  by_cases h5 : z = 5
  · subst h5; rw [upd_s]; rfl
  rw [upd_n _ _ h5]
  by_cases h4 : z = 4
  · subst h4; rw [upd_s]; rfl
  rw [upd_n _ _ h4]
  by_cases h3 : z = 3
  · subst h3; rw [upd_s]; rfl
  rw [upd_n _ _ h3]
  by_cases h2 : z = 2
  · subst h2; rw [upd_s]; rfl
  rw [upd_n _ _ h2]
  by_cases h1 : z = 1
  · subst h1; rw [upd_s]; rfl
  rw [upd_n _ _ h1]
  by_cases h0 : z = 0
  · subst h0; rw [upd_s]; rfl
  rw [upd_n _ _ h0, if_neg h0, if_neg h1, if_neg h2, if_neg h3, if_neg h4, if_neg h5]
theorem jU_ini : upd (upd (upd (upd (fun _ => 0) 0 a0) 1 a1) 2 a2) 3 a3 = jU a0 a1 a2 a3 := by
  funext z
  unfold jU
  by_cases h3 : z = 3
  · subst h3; rw [upd_s]; rfl
  rw [upd_n _ _ h3]
  by_cases h2 : z = 2
  · subst h2; rw [upd_s]; rfl
  rw [upd_n _ _ h2]
  by_cases h1 : z = 1
  · subst h1; rw [upd_s]; rfl
  rw [upd_n _ _ h1]
  by_cases h0 : z = 0
  · subst h0; rw [upd_s]; rfl
  rw [upd_n _ _ h0, if_neg h0, if_neg h1, if_neg h2, if_neg h3]
theorem jT_2 : upd (jT a0 a1 a2 a3 a4 a5) 2 y = jT a0 a1 y a3 a4 a5 := by
  funext z
  by_cases h : z = 2
  · subst h; rw [upd_s]; rfl
  · rw [upd_n _ _ h]; unfold jT; simp only [if_neg h]
theorem jT_3 : upd (jT a0 a1 a2 a3 a4 a5) 3 y = jT a0 a1 a2 y a4 a5 := by
  funext z
  by_cases h : z = 3
  · subst h; rw [upd_s]; rfl
  · rw [upd_n _ _ h]; unfold jT; simp only [if_neg h]
theorem jT_4 : upd (jT a0 a1 a2 a3 a4 a5) 4 y = jT a0 a1 a2 a3 y a5 := by
  funext z
  by_cases h : z = 4
  · subst h; rw [upd_s]; rfl
  · rw [upd_n _ _ h]; unfold jT; simp only [if_neg h]
theorem jT_5 : upd (jT a0 a1 a2 a3 a4 a5) 5 y = jT a0 a1 a2 a3 a4 y := by
  funext z
  by_cases h : z = 5
  · subst h; rw [upd_s]; rfl
  · rw [upd_n _ _ h]; unfold jT; simp only [if_neg h]
theorem jT_told {v : Nat → Nat → Int32} {k c w : Nat} (hw : w < 6) : jT (v (300 + c) 1) (v (100 + c) 2) (nI (mFill (v (200 + c)) 16)) (mAdd (v (200 + c)) 16) (nI (mSof v (nI c) k)) (nI (mSkp v (nI c) (v (300 + c) 1) k)) w = mTold v k c w := by
  rcases (show w = 0 ∨ w = 1 ∨ w = 2 ∨ w = 3 ∨ w = 4 ∨ w = 5 by omega) with rfl | rfl | rfl | rfl | rfl | rfl <;> rfl
theorem jU_about {v : Nat → Nat → Int32} {j c w : Nat} (hw : w < 4) : jU (nI c) (v (400 + j) 1) (v (400 + j) 2) (v (100 + c) 2 - v (400 + j) 2) w = mAbout v j c w := by
  rcases (show w = 0 ∨ w = 1 ∨ w = 2 ∨ w = 3 by omega) with rfl | rfl | rfl | rfl <;> rfl
end JT
section JH
variable {v u : Nat → Nat → Int32} {x : Int32} {b c d j : Nat} {n k : Nat} {C cs ms : Nat → Nat} {T : Nat}
theorem jHas_l (h : mHas v x b = true) : mHas v x (b + 1) = true := by show (mHas v x b || _) = true; rw [h]; rfl
theorem jHas_r (h : v (300 + b) 1 = x) : mHas v x (b + 1) = true := by show (mHas v x b || decide (v (300 + b) 1 = x)) = true; rw [decide_eq_true h, Bool.or_true]
theorem jHas_n (h1 : ¬ mHas v x b = true) (h2 : ¬ v (300 + b) 1 = x) : ¬ mHas v x (b + 1) = true := by
  show ¬ (mHas v x b || decide (v (300 + b) 1 = x)) = true
  rw [decide_eq_false h2, Bool.or_false]; exact h1
theorem jV_7 (h : jV n k v u C cs ms T) (hc : c < n) : u 7 c = v (100 + c) 2 := (h.2.2.1 c hc).2.2.2.1.trans (h.2.2.1 c hc).2.2.2.2.1.symm
theorem jV_s (h : jV n k v u C cs ms T) (hj : j < k) {t : Nat} (ht : t < 3) : u (40 + j) t = v (400 + j) t := (h.2.2.2.2 j hj).2.2.2.1 t ht
theorem jV_0 (h : jV n k v u C cs ms T) (hj : j < k) : v (400 + j) 0 = nI (cs j) := (h.2.2.2.2 j hj).2.1
theorem jV_cs (h : jV n k v u C cs ms T) (hj : j < k) : cs j < n := (h.2.2.2.2 j hj).1
end JH
