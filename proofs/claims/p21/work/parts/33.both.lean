theorem b_X3_root (l : Launch) (G : va_G) (cy : Nat → ClassId) (ad : Nat → Nat) (n k : Nat) (v : Nat → Nat → Int32) (N K : Nat) (u : Nat → Nat → Int32) (x : mC) (hN6 : N ≤ 6) (hK : K ≤ 20) (sz : Nat) (i : Nat) (h_i : i < N) : mMi l yX3_root wsX3_root ({ frames := 12, cells := 0, slots := 0, locals := 300 }) G cy ad (Sy cy ad n k v (Si cy ad N K u x)) sz [.ref (ad 4), .int (nI i)] 0 0 (fun (r : Int32) t => r = mS (u (20 + i)) 1 ∧ t = (ad, Sy cy ad n k v (Si cy ad N K u x))) := by
  rw [SySi hN6 hK]
  exact c_X3_root l G cy ad N K u (Sy cy ad n k v x) hN6 hK sz i h_i

theorem b_X3_put (l : Launch) (G : va_G) (cy : Nat → ClassId) (ad : Nat → Nat) (n k : Nat) (v : Nat → Nat → Int32) (N K : Nat) (u : Nat → Nat → Int32) (x : mC) (hN6 : N ≤ 6) (hK : K ≤ 20) (sz : Nat) (i d : Nat) (t : Int32) (h_i : i < N) (hd : d < 16) : mMi l yX3_put wsX3_put ({ frames := 7, cells := 0, slots := 0, locals := 100 }) G cy ad (Sy cy ad n k v (Si cy ad N K u x)) sz [.ref (ad 4), .int (nI i), .int (nI d), .int t] 0 0 (fun (r : Int32) t9 => r = mb (¬ u (20 + i) d = t) ∧ t9 = (ad, Sy cy ad n k v (Si cy ad N K (jPut u i d t) x))) := by
  rw [SySi hN6 hK, SySi hN6 hK]
  exact c_X3_put l G cy ad N K u (Sy cy ad n k v x) hN6 hK sz i d t h_i hd

theorem b_X3_mend (l : Launch) (G : va_G) (cy : Nat → ClassId) (ad : Nat → Nat) (n k : Nat) (v : Nat → Nat → Int32) (N K : Nat) (u : Nat → Nat → Int32) (x : mC) (hN6 : N ≤ 6) (hK : K ≤ 20) (sz : Nat) (a b z : Nat) (h_a : a < N) (h_b : b < N) (hz : z = jCmp (mS (u (20 + a))) (mS (u (20 + b))) 4 1 % 65536) : mMi l yX3_mend wsX3_mend ({ frames := 17, cells := 0, slots := 0, locals := 500 }) G cy ad (Sy cy ad n k v (Si cy ad N K u x)) sz [.ref (ad 4), .int (nI a), .int (nI b)] 0 0 (fun (r : Int32) t => r = nI (jMen u a b z 16) ∧ t = (ad, Sy cy ad n k v (Si cy ad N K (jMend u a b z 16) x))) := by
  rw [SySi hN6 hK, SySi hN6 hK]
  exact c_X3_mend l G cy ad N K u (Sy cy ad n k v x) hN6 hK sz a b z h_a h_b hz

theorem b_X3_swap (l : Launch) (G : va_G) (cy : Nat → ClassId) (ad : Nat → Nat) (n k : Nat) (v : Nat → Nat → Int32) (N K : Nat) (u : Nat → Nat → Int32) (x : mC) (hN6 : N ≤ 6) (hK : K ≤ 20) (sz : Nat) (i a b : Nat) (h_i : i < N) (ha : a < 16) (hb9 : b < 16) (x60 : x 60 = none) : mMi l yX3_swap wsX3_swap ({ frames := 12, cells := 1, slots := 32, locals := 300 }) G cy ad (Sy cy ad n k v (Si cy ad N K u x)) sz [.ref (ad 4), .int (nI i), .int (nI a), .int (nI b)] 1 32 (fun (r : Int32) t => r = nI (mApart (mS (u (20 + i))) (mS ((jSwap u i a b) (20 + i))) 31) ∧ t = (ad, Sy cy ad n k v (Si cy ad N K (jSwap u i a b) x))) := by
  rw [SySi hN6 hK, SySi hN6 hK]
  exact c_X3_swap l G cy ad N K u (Sy cy ad n k v x) hN6 hK sz i a b h_i ha hb9 ((S_r (by decide) (by decide)).trans x60)
