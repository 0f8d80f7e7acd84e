/-! ===== the cells of the law's own room, by name: 4 it, 5 its rows of things, 6 its rows of seals, 7 its changes; 20+i the things of a cupboard, 40+j a seal; u: the numbers in them; x: the rest of the world ===== -/
abbrev mQ4 (ad : Nat → Nat) : va_E := .inr (3, [.ref (ad 5), .ref (ad 6), .ref (ad 7)])
def si (cy : Nat → ClassId) (ad : Nat → Nat) (N K : Nat) (x : mC) (w : Nat) (g : Nat → Int32) : Option va_E :=
  if w = 4 then some (mQ4 ad) else if w = 5 then some (mRR cy ad N N 20) else if w = 6 then some (mRR cy ad K K 40) else if w = 7 then some (mI cy 6 g)
  else if 20 ≤ w ∧ w < 20 + N then some (mI cy 16 g) else if 40 ≤ w ∧ w < 40 + K then some (mI cy 3 g) else x w
def Si (cy : Nat → ClassId) (ad : Nat → Nat) (N K : Nat) (u : Nat → Nat → Int32) (x : mC) : mC := fun w => si cy ad N K x w (u w)
section SIL
variable {cy : Nat → ClassId} {ad ad' : Nat → Nat} {N K n k : Nat} {u v : Nat → Nat → Int32} {x o : mC} {i j : Nat} {g : Nat → Int32}
theorem si_4 : si cy ad N K x 4 g = some (mQ4 ad) := rfl
theorem si_5 : si cy ad N K x 5 g = some (mRR cy ad N N 20) := rfl
theorem si_6 : si cy ad N K x 6 g = some (mRR cy ad K K 40) := rfl
theorem si_7 : si cy ad N K x 7 g = some (mI cy 6 g) := rfl
theorem si_t (hi : i < N) : si cy ad N K x (20 + i) g = some (mI cy 16 g) := by
  unfold si
  rw [if_neg (by omega), if_neg (by omega), if_neg (by omega), if_neg (by omega), if_pos (by omega)]
theorem si_s (hN : N ≤ 6) (hj : j < K) : si cy ad N K x (40 + j) g = some (mI cy 3 g) := by
  unfold si
  rw [if_neg (by omega), if_neg (by omega), if_neg (by omega), if_neg (by omega), if_neg (by omega), if_pos (by omega)]
/-- the names of the law's own room -/
def jIs (N K w : Nat) : Prop := w = 4 ∨ w = 5 ∨ w = 6 ∨ w = 7 ∨ (20 ≤ w ∧ w < 20 + N) ∨ (40 ≤ w ∧ w < 40 + K)
theorem si_r {w : Nat} (h : ¬ jIs N K w) : si cy ad N K x w g = x w := by
  unfold jIs at h
  unfold si
  rw [if_neg (by omega), if_neg (by omega), if_neg (by omega), if_neg (by omega), if_neg (by omega), if_neg (by omega)]
theorem Q_4 : Si cy ad N K u x 4 = some (mQ4 ad) := rfl
theorem Q_5 : Si cy ad N K u x 5 = some (mRR cy ad N N 20) := rfl
theorem Q_6 : Si cy ad N K u x 6 = some (mRR cy ad K K 40) := rfl
theorem Q_7 : Si cy ad N K u x 7 = some (mI cy 6 (u 7)) := rfl
theorem Q_7e (e : u 7 = g) : Si cy ad N K u x 7 = some (mI cy 6 g) := by subst e; rfl
theorem Q_t (hi : i < N) : Si cy ad N K u x (20 + i) = some (mI cy 16 (u (20 + i))) := si_t hi
theorem Q_te (hi : i < N) (e : u (20 + i) = g) : Si cy ad N K u x (20 + i) = some (mI cy 16 g) := by subst e; exact si_t hi
theorem Q_s (hN : N ≤ 6) (hj : j < K) : Si cy ad N K u x (40 + j) = some (mI cy 3 (u (40 + j))) := si_s hN hj
theorem Q_se (hN : N ≤ 6) (hj : j < K) (e : u (40 + j) = g) : Si cy ad N K u x (40 + j) = some (mI cy 3 g) := by subst e; exact si_s hN hj
theorem Q_r {w : Nat} (h : ¬ jIs N K w) : Si cy ad N K u x w = x w := si_r h
theorem Q_5at (hi : i < N) : (fun i => if i < N then some (ad (20 + i)) else none) i = some (ad (20 + i)) := if_pos hi
theorem Q_6at (hj : j < K) : (fun i => if i < K then some (ad (40 + i)) else none) j = some (ad (40 + j)) := if_pos hj
theorem Q_up {w : Nat} {e : va_E} (h : si cy ad N K x w g = some e) : mU (Si cy ad N K u x) w e = Si cy ad N K (va_up u w g) x := by
  funext z
  show (if z = w then some e else Si cy ad N K u x z) = si cy ad N K x z (va_up u w g z)
  by_cases hz : z = w
  · subst hz
    rw [if_pos rfl, ← h]
    show _ = si cy ad N K x z (if z = z then g else u z)
    rw [if_pos rfl]
  · rw [if_neg hz]
    show si cy ad N K x z (u z) = si cy ad N K x z (if z = w then g else u z)
    rw [if_neg hz]
/-- a name of the rest -/
theorem Q_ux {w : Nat} {e : va_E} (h : ¬ jIs N K w) : mU (Si cy ad N K u x) w e = Si cy ad N K u (mU x w e) := by
  funext z
  show (if z = w then some e else si cy ad N K x z (u z)) = si cy ad N K (mU x w e) z (u z)
  by_cases hz : z = w
  · subst hz
    rw [if_pos rfl, si_r h, mU_s]
  · rw [if_neg hz]
    unfold si
    rw [show mU x w e z = x z from if_neg hz]
theorem S_ux {w : Nat} {e : va_E} (h1 : 4 ≤ w) (h2 : w < 100) : mU (Sy cy ad n k v o) w e = Sy cy ad n k v (mU o w e) := by
  funext z
  show (if z = w then some e else sy cy ad n k o z (v z)) = sy cy ad n k (mU o w e) z (v z)
  by_cases hz : z = w
  · subst hz
    rw [if_pos rfl, sy_r h1 h2, mU_s]
  · rw [if_neg hz]
    unfold sy
    rw [show mU o w e z = o z from if_neg hz]
theorem Q_ad (h : ∀ j, jIs N K j → ad' j = ad j) : Si cy ad N K u x = Si cy ad' N K u x := by
  have e1 : (fun i => if i < N then some (ad (20 + i)) else none) = (fun i => if i < N then some (ad' (20 + i)) else none) := by
    funext i
    by_cases hi : i < N
    · rw [if_pos hi, if_pos hi, h _ (by unfold jIs; omega)]
    · rw [if_neg hi, if_neg hi]
  have e2 : (fun i => if i < K then some (ad (40 + i)) else none) = (fun i => if i < K then some (ad' (40 + i)) else none) := by
    funext i
    by_cases hi : i < K
    · rw [if_pos hi, if_pos hi, h _ (by unfold jIs; omega)]
    · rw [if_neg hi, if_neg hi]
  funext w
  show si cy ad N K x w (u w) = si cy ad' N K x w (u w)
  unfold si
  simp only [mQ4, mRR, e1, e2, h 5 (by unfold jIs; omega), h 6 (by unfold jIs; omega), h 7 (by unfold jIs; omega)]
theorem Q_drop {w : Nat} {e e0 : va_E} (h : ¬ jIs N K w) (hx : x w = none) (hj : Si cy ad N K u x j = some e) : Si cy ad N K u (mU x w e0) j = some e := by
  rw [← Q_ux h]
  by_cases h9 : j = w
  · subst h9
    rw [Q_r h, hx] at hj
    cases hj
  · rw [mU_n _ _ h9]; exact hj
/-- which of the two comes first doesn't matter -/
theorem SySi (hN : N ≤ 6) (hK : K ≤ 20) : Sy cy ad n k v (Si cy ad' N K u x) = Si cy ad' N K u (Sy cy ad n k v x) := by
  funext w
  by_cases h : jIs N K w
  · have h' := h
    unfold jIs at h'
    rw [S_r (by omega) (by omega)]
    show si cy ad' N K x w (u w) = si cy ad' N K (Sy cy ad n k v x) w (u w)
    unfold si
    rcases h' with h1 | h1 | h1 | h1 | h1 | h1
    · rw [if_pos h1, if_pos h1]
    · rw [if_neg (by omega), if_pos h1, if_neg (by omega), if_pos h1]
    · rw [if_neg (by omega), if_neg (by omega), if_pos h1, if_neg (by omega), if_neg (by omega), if_pos h1]
    · rw [if_neg (by omega), if_neg (by omega), if_neg (by omega), if_pos h1, if_neg (by omega), if_neg (by omega), if_neg (by omega), if_pos h1]
    · rw [if_neg (by omega), if_neg (by omega), if_neg (by omega), if_neg (by omega), if_pos h1, if_neg (by omega), if_neg (by omega), if_neg (by omega), if_neg (by omega), if_pos h1]
    · rw [if_neg (by omega), if_neg (by omega), if_neg (by omega), if_neg (by omega), if_neg (by omega), if_pos h1, if_neg (by omega), if_neg (by omega), if_neg (by omega), if_neg (by omega), if_neg (by omega), if_pos h1]
  · rw [Q_r h]
    show sy cy ad n k (Si cy ad' N K u x) w (v w) = sy cy ad n k x w (v w)
    unfold sy
    rw [show Si cy ad' N K u x w = x w from Q_r h]
end SIL
/-! ===== what the law's own room reckons ===== -/
theorem jS_leaf (f : Nat → Int32) {q : Nat} (h : 16 ≤ q) : mS f q = mLeaf (nI (q - 16)) (f (q - 16)) := by
  obtain ⟨d, rfl⟩ : ∃ d, q = 16 + d := ⟨q - 16, by omega⟩
  rw [mS_leaf, Nat.add_sub_cancel_left]
theorem jHt_0 {q : Nat} (h : mHt q = 0) : 16 ≤ q := by
  unfold mHt at h
  split at h
  · assumption
  · split at h
    · cases h
    · split at h
      · cases h
      · split at h <;> cases h
theorem jHt_s {q h : Nat} (e : mHt q = h + 1) : q < 16 := by
  unfold mHt at e
  split at e
  · cases e
  · omega
theorem jHt_le : ∀ q, q < 32 → mHt q ≤ 4 := by decide +kernel
/-- its put -/
def jPut1 (u : Nat → Nat → Int32) (i d : Nat) (t : Int32) : Nat → Nat → Int32 := va_up (va_up u (20 + i) (upd (u (20 + i)) d t)) 7 (upd (u 7) i (u 7 i + nI 1))
def jPut (u : Nat → Nat → Int32) (i d : Nat) (t : Int32) : Nat → Nat → Int32 := if u (20 + i) d = t then u else jPut1 u i d t
def jSwap (u : Nat → Nat → Int32) (i a b : Nat) : Nat → Nat → Int32 := jPut (jPut u i a (u (20 + i) b)) i b (u (20 + i) a)
/-- its compare: places looked at in the bits from 16 on -/
def jCmp (f g : Nat → Int32) : Nat → Nat → Nat
  | 0, q => if f q = g q then 65536 else 65536 + 1 * 2 ^ (q - 16)
  | h + 1, q => if f q = g q then 65536 else 65536 + jCmp f g h (2 * q) + jCmp f g h (2 * q + 1)
def jMend (u : Nat → Nat → Int32) (a b z : Nat) : Nat → (Nat → Nat → Int32)
  | 0 => u
  | d + 1 => if z / 2 ^ d % 2 = 1 then jPut (jMend u a b z d) b d (jMend u a b z d (20 + a) d) else jMend u a b z d
def jMen (u : Nat → Nat → Int32) (a b z : Nat) : Nat → Nat
  | 0 => 0
  | d + 1 => if z / 2 ^ d % 2 = 1 ∧ ¬ jMend u a b z d (20 + b) d = jMend u a b z d (20 + a) d then jMen u a b z d + 1 else jMen u a b z d
theorem jMen_le (u : Nat → Nat → Int32) (a b z : Nat) : ∀ d, jMen u a b z d ≤ d := by
  intro d
  induction d with
  | zero => exact Nat.le_refl _
  | succ d ih =>
    simp only [jMen]
    split <;> omega
theorem jCmp_lt0 (f g : Nat → Int32) : ∀ h q, (q + 1) * 2 ^ h ≤ 32 → jCmp f g h q ≤ (2 ^ h - 1) * 65536 + 2 ^ h * 98304 := by
  intro h
  induction h with
  | zero =>
    intro q hq
    rw [Nat.pow_zero] at hq
    show (if f q = g q then 65536 else 65536 + 1 * 2 ^ (q - 16)) ≤ _
    have h1 : 2 ^ (q - 16) ≤ 2 ^ 15 := Nat.pow_le_pow_right (by decide) (by omega)
    rw [Nat.pow_zero]
    split <;> omega
  | succ h ih =>
    intro q hq
    have e : 2 ^ (h + 1) = 2 * 2 ^ h := by rw [Nat.pow_succ, Nat.mul_comm]
    have hp : 0 < 2 ^ h := Nat.pow_pos (by decide)
    rw [e] at hq ⊢
    have e1 : (q + 1) * (2 * 2 ^ h) = (2 * q + 1 + 1) * 2 ^ h := by rw [show 2 * q + 1 + 1 = (q + 1) * 2 by omega, Nat.mul_assoc]
    have e2 : (2 * q + 1 + 1) * 2 ^ h = (2 * q + 1) * 2 ^ h + 2 ^ h := by rw [Nat.add_mul (2 * q + 1) 1, Nat.one_mul]
    have a := ih (2 * q) (by omega)
    have b := ih (2 * q + 1) (by omega)
    show (if f q = g q then 65536 else 65536 + jCmp f g h (2 * q) + jCmp f g h (2 * q + 1)) ≤ _
    split <;> omega
theorem jCmp_lt (f g : Nat → Int32) : jCmp f g 4 1 < 2 ^ 31 := Nat.lt_of_le_of_lt (jCmp_lt0 f g 4 1 (by decide)) (by decide)
