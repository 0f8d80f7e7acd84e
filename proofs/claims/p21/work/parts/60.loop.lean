set_option maxHeartbeats 8000000 in
/-- the law's loop -/
theorem law_loop {p : Program} {l : Launch} {e : Env} {s : State} {m : MethodId} {below : List Frame} {meth : Method} {c : Code} {b : Nat} {G : va_G} {cy : Nat → ClassId} (hx : p.tables.exec = Jvm.exec) (hb : c.code = cL_law) (hml : c.maxLocals = 17) (hown : s.vm.findClass RL = some m.cls) (hts : ∀ w ∈ wsL_law, w.before #[Value.ref b] s = true) (hN : mN G cy (lA s) s) (hr : meth.sig.returnType = ret) (hlocks : meth.locks = false) {L : Nat} {xs : Nat → Int32} (hL : L ≤ 260) (hX : va_X b L xs s s.heap) (hbl : b < s.heap.size) : ∀ (r tm : Nat), tm + r = 20 → ∀ (ad : Nat → Nat) (n k : Nat) (v u : Nat → Nat → Int32) (C cs ms : Nat → Nat) (H : Heap) (locs : List Loc) (ls : Array Slot), jV n k v u C cs ms (480 + 48 * tm) → 1 ≤ n → mE G (lA s) s.heap ad (Sy cy ad n k v (Si cy ad n k u jN0)) H locs → lv_has ls 17 [(3, .int (nI tm)), (2, .ref (ad 4)), (1, .ref (ad 0)), (0, .ref b)] → W p l e room_1 s m #[Value.ref b] below meth c H locs (200 + 33 * tm) (3200 + 280 * tm) (lw_Z below #[Value.ref b] s) (F0 m 22 ls []) := by
  intro r
  induction r with
  | zero =>
    intro tm htm ad n k v u C cs ms H locs ls hJ hn0 hE hl
    refine lv_iload_n hx hb dL_law_22 rfl (lv_at hl 0 rfl) ?_
    refine lv_bipush (v := nI 20) hx hb dL_law_23 (by decide) ?_
    refine mv_ge (tgt := 849) hx hb (by omega) (by omega) dL_law_25 (by decide) (fun c1 => ?_) (fun c1 => ?_)
    · refine lv_aload_n hx hb dL_law_849 rfl (lv_at hl 1 rfl) ?_
      refine lv_aload_n hx hb dL_law_850 rfl (lv_at hl 2 rfl) ?_
      refine va_calli (va_runV (As := [.ref (ad 0)]) (rest := []) ⟨hx, hb, hml, hown, hts⟩ (c_X3_isSame l G cy ad jN0 (fun _ _ => rfl) n k v u C cs ms _ hJ hn0 _) (cwV 1 hts gL_law_X3_isSame rfl rfl rfl (by decide +kernel) ⟨Nat.le_of_ble_eq_true rfl, Nat.le_of_ble_eq_true rfl⟩) (mP_V (r := (RX3, TX3, 3)) hN hE ((S_r (by omega) (by omega)).trans (Q_4)) rfl) rfl rfl hl.1 rfl (lv_room (Nat.le_of_ble_eq_true rfl)) dL_law_851 ⟨(by show _ ≤ 667787; omega), (by show _ ≤ 7098410; omega)⟩) hE.2.2.2 (fun q _ h => mE_A hE q h) (mE_A hE) (fun r uq tq H locs ht hvm hw hB hz1 hk1 hS => ?_)
      have hw : r = 1 := hw
      subst hw
      have hE := mE_call hE hB ht hS
      refine va_forget (fun q hq => hE.2.2.2.2.2 q hq) ?_
      refine W.widen (k := 667787) (n := 7098410) (by omega) (by omega) ?_
      exact lw_ret (d0 := s.drawn) (Drawn.sameBut.refl s.drawn lw_cs) hx hb hr hlocks dL_law_854
    · exfalso; omega
  | succ r ih =>
    intro tm htm ad n k v u C cs ms H locs ls hJ hn0 hE hl
    refine lv_iload_n hx hb dL_law_22 rfl (lv_at hl 0 rfl) ?_
    refine lv_bipush (v := nI 20) hx hb dL_law_23 (by decide) ?_
    refine mv_ge (tgt := 849) hx hb (by omega) (by omega) dL_law_25 (by decide) (fun c1 => ?_) (fun c1 => ?_)
    · exfalso; omega
    · refine law_turn hx hb hml hown hts hN hL hX hbl hJ hn0 (by omega) (by omega) (by omega) (by omega) hE hl (fun H locs ls ad' n' k' v' u' C' cs' ms' hJ' hn' hE hl => ?_)
      refine lv_iinc (v := nI (tm + 1)) (lv' := [(3, .int (nI (tm + 1))), (2, .ref (ad' 4)), (1, .ref (ad' 0)), (0, .ref b)]) hx hb dL_law_843 hl (k := 0) rfl (nI_add _ _) (by decide) rfl (fun ls hl => ?_)
      refine lv_goto (tgt := 22) hx hb dL_law_846 (by decide) ?_
      refine W.widen (k := 200 + 33 * (tm + 1)) (n := 3200 + 280 * (tm + 1)) (by omega) (by omega) ?_
      exact ih (tm + 1) (by omega) ad' n' k' v' u' C' cs' ms' H locs ls (jV_T hJ' (by omega)) hn' hE hl
