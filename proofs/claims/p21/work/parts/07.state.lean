/-! ===== the class's cells, by name: 0 x, 1 its cupboards, 2 its seals, 3 its spare row; 100+i a cupboard, 200+i its things, 300+i its sums; 400+j a seal; v: the numbers in them; o: the rest of the world, at the names 4 to 99 ===== -/
abbrev mI (cy : Nat → ClassId) (z : Nat) (g : Nat → Int32) : va_E := .inl (cy 0, z, .inl g)
abbrev mO0 (ad : Nat → Nat) (n k : Nat) : va_E := .inr (2, [.ref (ad 1), .ref (ad 2), .ref (ad 3), .int (nI n), .int (nI k)])
abbrev mO1 (cy : Nat → ClassId) (ad : Nat → Nat) (n : Nat) : va_E := .inl (cy 1, 6, .inr (.inr (.inr (.inr (fun i => if i < n then some (ad (100 + i)) else none)))))
abbrev mO2 (cy : Nat → ClassId) (ad : Nat → Nat) (k : Nat) : va_E := .inl (cy 2, 20, .inr (.inr (.inr (.inr (fun i => if i < k then some (ad (400 + i)) else none)))))
abbrev mOc (ad : Nat → Nat) (i : Nat) (g : Nat → Int32) : va_E := .inr (0, [.ref (ad (200 + i)), .ref (ad (300 + i)), .int (g 2)])
abbrev mOs (g : Nat → Int32) : va_E := .inr (1, [.int (g 0), .int (g 1), .int (g 2)])
def sy (cy : Nat → ClassId) (ad : Nat → Nat) (n k : Nat) (o : mC) (w : Nat) (g : Nat → Int32) : Option va_E :=
  if w = 0 then some (mO0 ad n k) else if w = 1 then some (mO1 cy ad n) else if w = 2 then some (mO2 cy ad k) else if w = 3 then some (mI cy 32 g)
  else if w < 100 then o w
  else if 100 ≤ w ∧ w < 100 + n then some (mOc ad (w - 100) g) else if 200 ≤ w ∧ w < 200 + n then some (mI cy 16 g) else if 300 ≤ w ∧ w < 300 + n then some (mI cy 32 g)
  else if 400 ≤ w ∧ w < 400 + k then some (mOs g) else none
def Sy (cy : Nat → ClassId) (ad : Nat → Nat) (n k : Nat) (v : Nat → Nat → Int32) (o : mC) : mC := fun w => sy cy ad n k o w (v w)
section SYL
variable {cy : Nat → ClassId} {ad : Nat → Nat} {n k : Nat} {v : Nat → Nat → Int32} {o : mC} {i j : Nat} {g : Nat → Int32}
theorem sy_0 : sy cy ad n k o 0 g = some (mO0 ad n k) := rfl
theorem sy_1 : sy cy ad n k o 1 g = some (mO1 cy ad n) := rfl
theorem sy_2 : sy cy ad n k o 2 g = some (mO2 cy ad k) := rfl
theorem sy_3 : sy cy ad n k o 3 g = some (mI cy 32 g) := rfl
theorem sy_r {w : Nat} (h1 : 4 ≤ w) (h2 : w < 100) : sy cy ad n k o w g = o w := by
  unfold sy
  rw [if_neg (by omega), if_neg (by omega), if_neg (by omega), if_neg (by omega), if_pos h2]
theorem sy_c (hn : n ≤ 6) (hi : i < n) : sy cy ad n k o (100 + i) g = some (mOc ad i g) := by
  unfold sy
  rw [if_neg (by omega), if_neg (by omega), if_neg (by omega), if_neg (by omega), if_neg (by omega), if_pos (by omega), Nat.add_sub_cancel_left]
theorem sy_t (hn : n ≤ 6) (hi : i < n) : sy cy ad n k o (200 + i) g = some (mI cy 16 g) := by
  unfold sy
  rw [if_neg (by omega), if_neg (by omega), if_neg (by omega), if_neg (by omega), if_neg (by omega), if_neg (by omega), if_pos (by omega)]
theorem sy_s (hn : n ≤ 6) (hi : i < n) : sy cy ad n k o (300 + i) g = some (mI cy 32 g) := by
  unfold sy
  rw [if_neg (by omega), if_neg (by omega), if_neg (by omega), if_neg (by omega), if_neg (by omega), if_neg (by omega), if_neg (by omega), if_pos (by omega)]
theorem sy_so (hn : n ≤ 6) (hj : j < k) : sy cy ad n k o (400 + j) g = some (mOs g) := by
  unfold sy
  rw [if_neg (by omega), if_neg (by omega), if_neg (by omega), if_neg (by omega), if_neg (by omega), if_neg (by omega), if_neg (by omega), if_neg (by omega), if_pos (by omega)]
theorem S_0 : Sy cy ad n k v o 0 = some (mO0 ad n k) := sy_0 (g := v 0)
theorem S_1 : Sy cy ad n k v o 1 = some (mO1 cy ad n) := sy_1 (g := v 1)
theorem S_2 : Sy cy ad n k v o 2 = some (mO2 cy ad k) := sy_2 (g := v 2)
theorem S_3 : Sy cy ad n k v o 3 = some (mI cy 32 (v 3)) := sy_3
theorem S_r {w : Nat} (h1 : 4 ≤ w) (h2 : w < 100) : Sy cy ad n k v o w = o w := sy_r h1 h2
theorem S_c (hn : n ≤ 6) (hi : i < n) : Sy cy ad n k v o (100 + i) = some (mOc ad i (v (100 + i))) := sy_c hn hi
theorem S_t (hn : n ≤ 6) (hi : i < n) : Sy cy ad n k v o (200 + i) = some (mI cy 16 (v (200 + i))) := sy_t hn hi
theorem S_s (hn : n ≤ 6) (hi : i < n) : Sy cy ad n k v o (300 + i) = some (mI cy 32 (v (300 + i))) := sy_s hn hi
theorem S_so (hn : n ≤ 6) (hj : j < k) : Sy cy ad n k v o (400 + j) = some (mOs (v (400 + j))) := sy_so hn hj
/-- what a place of the references' rows holds -/
theorem S_1at (hi : i < n) : (fun i => if i < n then some (ad (100 + i)) else none) i = some (ad (100 + i)) := if_pos hi
theorem S_2at (hj : j < k) : (fun i => if i < k then some (ad (400 + i)) else none) j = some (ad (400 + j)) := if_pos hj
/-- numbers in one cell become others -/
theorem S_up {w : Nat} {e : va_E} (h : sy cy ad n k o w g = some e) : mU (Sy cy ad n k v o) w e = Sy cy ad n k (va_up v w g) o := by
  funext z
  show (if z = w then some e else Sy cy ad n k v o z) = sy cy ad n k o z (va_up v w g z)
  by_cases hz : z = w
  · subst hz
    rw [if_pos rfl, ← h]
    show _ = sy cy ad n k o z (if z = z then g else v z)
    rw [if_pos rfl]
  · rw [if_neg hz]
    show sy cy ad n k o z (v z) = sy cy ad n k o z (if z = w then g else v z)
    rw [if_neg hz]
theorem va_up_s {α : Type} (f : Nat → α) (k : Nat) (x : α) : va_up f k x k = x := if_pos rfl
theorem va_up_n {α : Type} (f : Nat → α) {k j : Nat} (x : α) (h : j ≠ k) : va_up f k x j = f j := if_neg h
theorem upd_s (f : Nat → Int32) (k : Nat) (x : Int32) : upd f k x k = x := pk_us
theorem upd_n (f : Nat → Int32) {k j : Nat} (x : Int32) (h : j ≠ k) : upd f k x j = f j := pk_un h
end SYL
/-! ===== the same, where what a name holds is known by another word ===== -/
section SYE
variable {cy : Nat → ClassId} {ad : Nat → Nat} {n k : Nat} {v : Nat → Nat → Int32} {o : mC} {i j : Nat} {g : Nat → Int32} {a b c d : Int32}
theorem S_3e (e : v 3 = g) : Sy cy ad n k v o 3 = some (mI cy 32 g) := by subst e; exact S_3
theorem S_ce (hn : n ≤ 6) (hi : i < n) (e : v (100 + i) = g) : Sy cy ad n k v o (100 + i) = some (mOc ad i g) := by subst e; exact S_c hn hi
theorem S_te (hn : n ≤ 6) (hi : i < n) (e : v (200 + i) = g) : Sy cy ad n k v o (200 + i) = some (mI cy 16 g) := by subst e; exact S_t hn hi
theorem S_se (hn : n ≤ 6) (hi : i < n) (e : v (300 + i) = g) : Sy cy ad n k v o (300 + i) = some (mI cy 32 g) := by subst e; exact S_s hn hi
theorem S_soe (hn : n ≤ 6) (hj : j < k) (e : v (400 + j) = g) : Sy cy ad n k v o (400 + j) = some (mOs g) := by subst e; exact S_so hn hj
theorem S_soc (hn : n ≤ 6) (hj : j < k) (e : v (400 + j) 0 = a) : Sy cy ad n k v o (400 + j) = some (.inr (1, [.int a, .int (v (400 + j) 1), .int (v (400 + j) 2)])) := by subst e; exact S_so hn hj
theorem S_w {w z : Nat} (h : ∀ g, sy cy ad n k o w g = some (mI cy z g)) (e : v w = g) : Sy cy ad n k v o w = some (mI cy z g) := by subst e; exact h _
theorem va_upup {α : Type} (f : Nat → α) (k : Nat) (x y : α) : va_up (va_up f k x) k y = va_up f k y := bx_uu f k x y
end SYE
theorem va_up_id {α : Type} (f : Nat → α) (k : Nat) : va_up f k (f k) = f := by
  funext j
  by_cases h : j = k
  · subst h; exact va_up_s _ _ _
  · exact va_up_n _ _ h
