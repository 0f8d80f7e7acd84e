set_option maxHeartbeats 8000000 in
/-- one turn of the law's loop -/
theorem law_turn {p : Program} {l : Launch} {e : Env} {s : State} {m : MethodId} {below : List Frame} {meth : Method} {c : Code} {Q : State → Prop} {b : Nat} {G : va_G} {cy : Nat → ClassId} (hx : p.tables.exec = Jvm.exec) (hb : c.code = cL_law) (hml : c.maxLocals = 17) (hown : s.vm.findClass RL = some m.cls) (hts : ∀ w ∈ wsL_law, w.before #[Value.ref b] s = true) (hN : mN G cy (lA s) s) {L : Nat} {xs : Nat → Int32} (hL : L ≤ 260) (hX : va_X b L xs s s.heap) (hbl : b < s.heap.size) {ad : Nat → Nat} {n k : Nat} {v u : Nat → Nat → Int32} {C cs ms : Nat → Nat} {T : Nat} (hJ : jV n k v u C cs ms T) (hn0 : 1 ≤ n) {tm : Nat} (htm : tm < 20) (hT : T + 48 ≤ 100000) {H : Heap} {locs : List Loc} {ls : Array Slot} {cells slots : Nat} (hc9 : cells + 33 ≤ 667787) (hs9 : slots + 280 ≤ 7098410) (hE : mE G (lA s) s.heap ad (Sy cy ad n k v (Si cy ad n k u jN0)) H locs) (hl : lv_has ls 17 [(3, .int (nI tm)), (2, .ref (ad 4)), (1, .ref (ad 0)), (0, .ref b)])
    (kk : ∀ (H : Heap) (locs : List Loc) (ls : Array Slot) (ad' : Nat → Nat) (n' k' : Nat) (v' u' : Nat → Nat → Int32) (C' cs' ms' : Nat → Nat), jV n' k' v' u' C' cs' ms' (T + 48) → 1 ≤ n' → mE G (lA s) s.heap ad' (Sy cy ad' n' k' v' (Si cy ad' n' k' u' jN0)) H locs → lv_has ls 17 [(3, .int (nI tm)), (2, .ref (ad' 4)), (1, .ref (ad' 0)), (0, .ref b)] → W p l e room_1 s m #[Value.ref b] below meth c H locs (cells + 33) (slots + 280) Q (F0 m 843 ls [])) : W p l e room_1 s m #[Value.ref b] below meth c H locs cells slots Q (F0 m 28 ls []) := by
  refine s1 hx hb hml hown hts hN hJ hn0 hL hX hbl htm (by omega) (by omega) hE hl (fun H locs ls ad1 xv g hg hE hl => ?_)
  refine s2 hx hb hml hown hts hN (x := jWas cy ad1 k g) (fun w hw => jWas_lo hw) hJ hn0 (by omega) (by omega) (by omega) hE hl (fun H locs ls ad2 n2 k2 v2 u2 C2 cs2 ms2 wa hJ2 hle hE hl => ?_)
  rw [jWas_ad (ad := ad1) (ad' := ad2) (fun j h1 h2 => wa j (Or.inr (Or.inr ⟨h1, h2⟩))) hJ.2.1] at hE
  refine s3 hx hb hml hown hts hN hJ2 hle.2.1 hle hJ.2.1 hg (by omega) (by omega) (by omega) hE hl (fun H locs ls hE hl => ?_)
  refine s4 hx hb hml hown hts hN hJ2 hle.2.1 (by omega) (by omega) hE hl (fun H locs ls a9 b9 ha9 hb9 hE hl => ?_)
  refine s5 hx hb hml hown hts hN hJ2 hle.2.1 ha9 hb9 (by omega) (by omega) hE hl (fun H locs ls d9 hd9 hE hl => ?_)
  refine s6 hx hb hml hown hts hN hJ2 hle.2.1 ha9 hb9 hd9 (by omega) (by omega) hE hl (fun H locs ls z hz hE hl => ?_)
  refine s7 hx hb hml hown hts hN hJ2 hle.2.1 ha9 hb9 hd9 hz (by omega) (by omega) hE hl (fun H locs ls hE hl => ?_)
  refine s8 hx hb hml hown hts hN hJ2 hle.2.1 ha9 hb9 hd9 hz htm (by omega) (by omega) hE hl (fun H locs ls v3 u3 C3 hJ3 hE hl => ?_)
  refine s9 hx hb hml hown hts hN hJ3 hle.2.1 hd9 (by omega) (by omega) (by omega) hE hl (fun H locs ls v4 hJ4 hE hl => ?_)
  exact kk H locs ls ad2 n2 k2 v4 u3 C3 cs2 ms2 (jV_T hJ4 (by omega)) hle.2.1 hE (lv_sub hl [1, 2, 3, 4] rfl)
