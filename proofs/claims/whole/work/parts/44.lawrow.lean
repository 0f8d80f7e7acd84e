/-! ===== the law's own rows ===== -/
abbrev lA (s : State) : Nat → Prop := fun q => s.heap.size ≤ q
theorem lg_same (x : Int64) : lg_cmp x x = 0 := by
  unfold lg_cmp
  first | simp | (simp; done)
theorem mMi_w {l : Launch} {y : MethodName} {ws : List Cond} {rm : Room} {G : va_G} {cy : Nat → ClassId} {ad : Nat → Nat} {M : mC} {sz : Nat} {av : List Value} {mc ms : Nat} {post post' : Int32 → (Nat → Nat) × mC → Prop} (h : mMi l y ws rm G cy ad M sz av mc ms post) (hp : ∀ r u, post r u → post' r u) : mMi l y ws rm G cy ad M sz av mc ms post' :=
  MetFree.mono h (fun _ _ q => q) (fun _ _ _ _ _ q => q) (fun a s o s' _ q => ⟨⟨q.1.1.imp (fun r => Exists.imp (fun u h => ⟨h.1, hp r u h.2.1, h.2.2⟩)), q.1.2⟩, q.2⟩)
section MLR
variable {p : Program} {l : Launch} {e : Env} {R : Room} {s : State} {m : MethodId} {args : Array Value} {below : List Frame} {meth : Method} {c : Code} {H : Heap} {locs : List Loc} {cells slots : Nat} {Q : State → Prop}
variable {cc : ByteArray} {pc : Nat} {ls : Array Slot} {rest : List Value} {G : va_G} {ad : Nat → Nat} {M : mC}
theorem mx_sld (hx : p.tables.exec = Jvm.exec) (hb : c.code = cc) {b L : Nat} {xs : Nat → Int32} (hX : va_X b L xs s s.heap) (hbl : b < s.heap.size) (hE : mE G (lA s) s.heap ad M H locs) {x : Int32} {j : Nat} (hi : x = nI j) (hj : j < L) (hL : L ≤ 3584) (hdg : decode cc pc = .ok (.iaload, 1))
    (kk : W p l e R s m args below meth c H locs cells slots Q (F0 m (pc + 1) ls (.int (xs j) :: rest))) : W p l e R s m args below meth c H locs cells slots Q (F0 m pc ls (.int x :: .ref b :: rest)) := by
  subst hi
  refine va_sld hx hb hX hbl (A := lA s) (Nat.not_le.mpr hbl) hE.2.2.2 (vp_in_nI hj (by omega)) hdg ?_
  rw [nI_clamp (by omega)]
  exact kk
theorem mx_slen (hx : p.tables.exec = Jvm.exec) (hb : c.code = cc) {b L : Nat} {xs : Nat → Int32} (hX : va_X b L xs s s.heap) (hbl : b < s.heap.size) (hE : mE G (lA s) s.heap ad M H locs) (hdg : decode cc pc = .ok (.arraylength, 1))
    (kk : W p l e R s m args below meth c H locs cells slots Q (F0 m (pc + 1) ls (.int (nI L) :: rest))) : W p l e R s m args below meth c H locs cells slots Q (F0 m pc ls (.ref b :: rest)) :=
  va_slen hx hb hX hbl (A := lA s) (Nat.not_le.mpr hbl) hE.2.2.2 hdg kk
end MLR
