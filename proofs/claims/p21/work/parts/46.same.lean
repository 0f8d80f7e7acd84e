set_option maxHeartbeats 4000000 in
set_option maxRecDepth 100000 in
/-- all as by hand -/
theorem c_X3_isSame (l : Launch) (G : va_G) (cy : Nat → ClassId) (ad : Nat → Nat) (x : mC) (hx70 : ∀ w, w < 70 → x w = none) (n k : Nat) (v u : Nat → Nat → Int32) (C cs ms : Nat → Nat) (T : Nat) (hJ : jV n k v u C cs ms T) (hn0 : 0 < n) (sz : Nat) : mMi l yX3_isSame wsX3_isSame ({ frames := 13, cells := 26, slots := 116, locals := 340 }) G cy ad (Sy cy ad n k v (Si cy ad n k u x)) sz [.ref (ad 4), .ref (ad 0)] 26 116 (fun (r : Int32) t => r = 1) := by
  refine Met.ofW (cc := cX3_isSame) (maxL := 13) (ret := (some .boolean)) (by decide) rfl ?_
  intro p e s m args below meth c s₁ B hml hv
  obtain ⟨rfl, hv⟩ := hv
  have hsz := hv.1
  subst hsz
  have hN := hv.2.2
  have hE := mP_E hv
  have hx := B.exec
  have hb := B.bytes
  have hr := B.returns
  have hts := atoms_spec (ws := wsX3_isSame) B.pre
  have hown : s.vm.findClass RX3 = some m.cls := findClass_of_methodNamed B.named
  have hlocks := B.notSynchronized
  have hiX3 : ∀ w ∈ wsX30, w ∈ wsX3_isSame := by decide +kernel
  have hl := lv_entry ([.ref (ad 4), .ref (ad 0)]) (n := 13) (Nat.le_of_ble_eq_true rfl)
  rw [lg_entry_eq]
  generalize (lg_sl ([.ref (ad 4), .ref (ad 0)]) ++ List.replicate (13 - (lg_sl ([.ref (ad 4), .ref (ad 0)])).length) Slot.unset).toArray = ls at hl ⊢
  have hl : lv_has ls 13 [(0, .ref (ad 4)), (1, .ref (ad 0))] := hl
  have hn := hJ.1
  have hk := hJ.2.1
  have hN6 := hJ.1
  have h60 : ¬ jIs n k 60 := by unfold jIs; omega
  have x60 := hx70 60 (by decide)
  generalize hargs : ([.ref (ad 4), .ref (ad 0)] : List Value).toArray = args at hts ⊢
  refine lv_aload_n hx hb dX3_isSame_0 rfl (lv_at hl 0 rfl) ?_
  refine va_get (D := G) (ci := 3) (v := .ref (ad 5)) (C := RX3) (T := TX3) (N := 3) hx hb hts hiX3 hown hN.1 (mE_P1 hE ((S_r (by omega) (by omega)).trans (Q_4))) 0 rfl rfl 0 (by decide) (hts (.fieldLink RX3 9 "SealedCupboardsLaw$Sim" "things" "[[I") (by decide +kernel)) (fun _ h9 => h9) rfl dX3_isSame_1 ?_
  refine va_alen (v := nI n) hx hb hN.1 (mE_P1 hE ((S_r (by omega) (by omega)).trans (Q_5))) 0 3 rfl rfl rfl dX3_isSame_4 ?_
  refine lv_istore_n (lv' := [(2, .int (nI n)), (0, .ref (ad 4)), (1, .ref (ad 0))]) hx hb dX3_isSame_5 rfl hl (by decide) rfl (fun ls hl => ?_)
  refine lv_iconst (v := nI 0) hx hb dX3_isSame_6 (by decide) ?_
  refine lv_istore_n (lv' := [(3, .int (nI 0)), (2, .int (nI n)), (0, .ref (ad 4)), (1, .ref (ad 0))]) hx hb dX3_isSame_7 rfl hl (by decide) rfl (fun ls hl => ?_)
  refine lv_iconst (v := nI 0) hx hb dX3_isSame_8 (by decide) ?_
  refine lv_istore (lv' := [(4, .int (nI 0)), (3, .int (nI 0)), (2, .int (nI n)), (0, .ref (ad 4)), (1, .ref (ad 0))]) hx hb dX3_isSame_9 hl (by decide) rfl (fun ls hl => ?_)
  refine lv_iconst (v := nI 0) hx hb dX3_isSame_11 (by decide) ?_
  refine lv_istore (lv' := [(5, .int (nI 0)), (4, .int (nI 0)), (3, .int (nI 0)), (2, .int (nI n)), (0, .ref (ad 4)), (1, .ref (ad 0))]) hx hb dX3_isSame_12 hl (by decide) rfl (fun ls hl => ?_)
  refine lv_iconst (v := nI 0) hx hb dX3_isSame_14 (by decide) ?_
  refine lv_istore (lv' := [(6, .int (nI 0)), (5, .int (nI 0)), (4, .int (nI 0)), (3, .int (nI 0)), (2, .int (nI n)), (0, .ref (ad 4)), (1, .ref (ad 0))]) hx hb dX3_isSame_15 hl (by decide) rfl (fun ls hl => ?_)
  refine W.widen (k := 0 + 1 * (n - (n - 0))) (n := 0 + 6 * (n - (n - 0))) (by omega) (by omega) ?_
  refine mx_loopc (β := Nat) n 0 1 0 6 (fun n9 (c : Nat) H locs ls => n9 = n - c ∧ (c ≤ n) ∧ mE G (mA ad (Sy cy ad n k v (Si cy ad n k u x)) s.heap.size) s.heap ad (Sy cy ad n k v (Si cy ad n k u x)) H locs ∧ lv_has ls 13 [(6, .int (nI c)), (5, .int (mTot (fun i => v (300 + i)) c)), (4, .int (mChs v c)), (3, .int (nI (mDif v c))), (2, .int (nI n)), (0, .ref (ad 4)), (1, .ref (ad 0))]) ?_ (n - 0) (0) _ _ _ ⟨rfl, (by omega), hE, lv_sub hl [0, 1, 2, 3, 4, 5, 6] rfl⟩
  intro n9 c H locs ls hI ih1
  obtain ⟨hn2, hle_c, hE, hl⟩ := hI
  have hdl := mDif_le v c
  have hE : mE G (mA ad (Sy cy ad n k v (Si cy ad n k u x)) s.heap.size) s.heap ad (Sy cy ad n k v (Si cy ad n k u x)) H locs := hE
  have hl : lv_has ls 13 [(6, .int (nI c)), (5, .int (mTot (fun i => v (300 + i)) c)), (4, .int (mChs v c)), (3, .int (nI (mDif v c))), (2, .int (nI n)), (0, .ref (ad 4)), (1, .ref (ad 0))] := hl
  refine lv_iload hx hb dX3_isSame_17 (lv_at hl 0 rfl) ?_
  refine lv_iload_n hx hb dX3_isSame_19 rfl (lv_at hl 4 rfl) ?_
  refine mv_ge (tgt := 374) hx hb (by omega) (by omega) dX3_isSame_20 (by decide) (fun c3 => ?_) (fun c3 => ?_)
  · skip
    rw [show c = n by omega] at hl
    refine lv_iconst (v := nI 0) hx hb dX3_isSame_374 (by decide) ?_
    refine lv_istore (lv' := [(6, .int (nI 0)), (5, .int (mTot (fun i => v (300 + i)) n)), (4, .int (mChs v n)), (3, .int (nI (mDif v n))), (2, .int (nI n)), (0, .ref (ad 4)), (1, .ref (ad 0))]) hx hb dX3_isSame_375 hl (by decide) rfl (fun ls hl => ?_)
    refine W.widen (k := 6 + 1 * (k - (k - 0))) (n := 36 + 4 * (k - (k - 0))) (by omega) (by omega) ?_
    refine mx_loopc (β := Nat) k 6 1 36 4 (fun n9 (j : Nat) H locs ls => n9 = k - j ∧ (j ≤ k) ∧ mE G (mA ad (Sy cy ad n k v (Si cy ad n k u x)) s.heap.size) s.heap ad (Sy cy ad n k v (Si cy ad n k u x)) H locs ∧ lv_has ls 13 [(6, .int (nI j)), (5, .int (mTot (fun i => v (300 + i)) n)), (4, .int (mChs v n)), (3, .int (nI (mDif v n))), (2, .int (nI n)), (0, .ref (ad 4)), (1, .ref (ad 0))]) ?_ (k - 0) (0) _ _ _ ⟨rfl, (by omega), hE, lv_sub hl [0, 1, 2, 3, 4, 5, 6] rfl⟩
    intro n9 j H locs ls hI ih4
    obtain ⟨hn5, hle_j, hE, hl⟩ := hI
    have hE : mE G (mA ad (Sy cy ad n k v (Si cy ad n k u x)) s.heap.size) s.heap ad (Sy cy ad n k v (Si cy ad n k u x)) H locs := hE
    have hl : lv_has ls 13 [(6, .int (nI j)), (5, .int (mTot (fun i => v (300 + i)) n)), (4, .int (mChs v n)), (3, .int (nI (mDif v n))), (2, .int (nI n)), (0, .ref (ad 4)), (1, .ref (ad 0))] := hl
    refine lv_iload hx hb dX3_isSame_377 (lv_at hl 0 rfl) ?_
    refine lv_aload_n hx hb dX3_isSame_379 rfl (lv_at hl 5 rfl) ?_
    refine va_get (D := G) (ci := 3) (v := .ref (ad 6)) (C := RX3) (T := TX3) (N := 3) hx hb hts hiX3 hown hN.1 (mE_P1 hE ((S_r (by omega) (by omega)).trans (Q_4))) 0 rfl rfl 1 (by decide) (hts (.fieldLink RX3 15 "SealedCupboardsLaw$Sim" "seals" "[[I") (by decide +kernel)) (fun _ h9 => h9) rfl dX3_isSame_380 ?_
    refine va_alen (v := nI k) hx hb hN.1 (mE_P1 hE ((S_r (by omega) (by omega)).trans (Q_6))) 0 3 rfl rfl rfl dX3_isSame_383 ?_
    refine mv_ge (tgt := 494) hx hb (by omega) (by omega) dX3_isSame_384 (by decide) (fun c6 => ?_) (fun c6 => ?_)
    · skip
      refine lv_aload_n hx hb dX3_isSame_494 rfl (lv_at hl 6 rfl) ?_
      refine lv_iconst (v := nI 0) hx hb dX3_isSame_495 (by decide) ?_
      refine va_calli (va_runV (As := [.int (nI 0)]) (rest := []) ⟨hx, hb, hml, hown, hts⟩ (c_X2_count l G cy ad n k v (Si cy ad n k u x) hn hk _ 0 (by decide)) (cwV 1 hts gX3_isSame_X2_count rfl rfl rfl (by decide +kernel) ⟨Nat.le_of_ble_eq_true rfl, Nat.le_of_ble_eq_true rfl⟩) (mP_V (r := (RX2, TX2, 5)) hN hE S_0 rfl) rfl rfl hl.1 rfl (lv_room (Nat.le_of_ble_eq_true rfl)) dX3_isSame_496 ⟨(by show _ ≤ 26; omega), (by show _ ≤ 116; omega)⟩) hE.2.2.2 (fun q _ h => mE_A hE q h) (mE_A hE) (fun r uq tq H locs ht hvm hw hB hz1 hk1 hS => ?_)
      obtain ⟨rfl, rfl⟩ := hw
      have hE : mE G (mA ad (Sy cy ad n k v (Si cy ad n k u x)) s.heap.size) s.heap ad (Sy cy ad n k v (Si cy ad n k u x)) H locs := mE_call hE hB ht hS
      refine lv_iload_n hx hb dX3_isSame_499 rfl (lv_at hl 4 rfl) ?_
      refine mv_ne (tgt := 564) hx hb (by omega) (by omega) dX3_isSame_500 (by decide) (fun c7 => ?_) (fun c7 => ?_)
      · skip
        exact absurd rfl c7
      · skip
        refine lv_aload_n hx hb dX3_isSame_503 rfl (lv_at hl 6 rfl) ?_
        refine lv_iconst (v := nI 1) hx hb dX3_isSame_504 (by decide) ?_
        refine va_calli (va_runV (As := [.int (nI 1)]) (rest := []) ⟨hx, hb, hml, hown, hts⟩ (c_X2_count l G cy ad n k v (Si cy ad n k u x) hn hk _ 1 (by decide)) (cwV 1 hts gX3_isSame_X2_count rfl rfl rfl (by decide +kernel) ⟨Nat.le_of_ble_eq_true rfl, Nat.le_of_ble_eq_true rfl⟩) (mP_V (r := (RX2, TX2, 5)) hN hE S_0 rfl) rfl rfl hl.1 rfl (lv_room (Nat.le_of_ble_eq_true rfl)) dX3_isSame_505 ⟨(by show _ ≤ 26; omega), (by show _ ≤ 116; omega)⟩) hE.2.2.2 (fun q _ h => mE_A hE q h) (mE_A hE) (fun r uq tq H locs ht hvm hw hB hz1 hk1 hS => ?_)
        obtain ⟨rfl, rfl⟩ := hw
        have hE : mE G (mA ad (Sy cy ad n k v (Si cy ad n k u x)) s.heap.size) s.heap ad (Sy cy ad n k v (Si cy ad n k u x)) H locs := mE_call hE hB ht hS
        refine lv_aload_n hx hb dX3_isSame_508 rfl (lv_at hl 5 rfl) ?_
        refine va_get (D := G) (ci := 3) (v := .ref (ad 6)) (C := RX3) (T := TX3) (N := 3) hx hb hts hiX3 hown hN.1 (mE_P1 hE ((S_r (by omega) (by omega)).trans (Q_4))) 0 rfl rfl 1 (by decide) (hts (.fieldLink RX3 15 "SealedCupboardsLaw$Sim" "seals" "[[I") (by decide +kernel)) (fun _ h9 => h9) rfl dX3_isSame_509 ?_
        refine va_alen (v := nI k) hx hb hN.1 (mE_P1 hE ((S_r (by omega) (by omega)).trans (Q_6))) 0 3 rfl rfl rfl dX3_isSame_512 ?_
        refine mv_ne (tgt := 564) hx hb (by omega) (by omega) dX3_isSame_513 (by decide) (fun c8 => ?_) (fun c8 => ?_)
        · skip
          exact absurd rfl c8
        · skip
          refine lv_aload_n hx hb dX3_isSame_516 rfl (lv_at hl 6 rfl) ?_
          refine lv_iconst (v := nI 2) hx hb dX3_isSame_517 (by decide) ?_
          refine va_calli (va_runV (As := [.int (nI 2)]) (rest := []) ⟨hx, hb, hml, hown, hts⟩ (c_X2_count l G cy ad n k v (Si cy ad n k u x) hn hk _ 2 (by decide)) (cwV 1 hts gX3_isSame_X2_count rfl rfl rfl (by decide +kernel) ⟨Nat.le_of_ble_eq_true rfl, Nat.le_of_ble_eq_true rfl⟩) (mP_V (r := (RX2, TX2, 5)) hN hE S_0 rfl) rfl rfl hl.1 rfl (lv_room (Nat.le_of_ble_eq_true rfl)) dX3_isSame_518 ⟨(by show _ ≤ 26; omega), (by show _ ≤ 116; omega)⟩) hE.2.2.2 (fun q _ h => mE_A hE q h) (mE_A hE) (fun r uq tq H locs ht hvm hw hB hz1 hk1 hS => ?_)
          obtain ⟨rfl, rfl⟩ := hw
          have hE : mE G (mA ad (Sy cy ad n k v (Si cy ad n k u x)) s.heap.size) s.heap ad (Sy cy ad n k v (Si cy ad n k u x)) H locs := mE_call hE hB ht hS
          refine lv_iload_n hx hb dX3_isSame_521 rfl (lv_at hl 3 rfl) ?_
          have hdl := mDif_le v n
          refine mv_ne (tgt := 564) hx hb (by omega) (by omega) dX3_isSame_522 (by decide) (fun c9 => ?_) (fun c9 => ?_)
          · skip
            exact absurd rfl c9
          · skip
            refine lv_aload_n hx hb dX3_isSame_525 rfl (lv_at hl 6 rfl) ?_
            refine lv_iconst (v := nI 3) hx hb dX3_isSame_526 (by decide) ?_
            refine va_calli (va_runV (As := [.int (nI 3)]) (rest := []) ⟨hx, hb, hml, hown, hts⟩ (c_X2_count l G cy ad n k v (Si cy ad n k u x) hn hk _ 3 (by decide)) (cwV 1 hts gX3_isSame_X2_count rfl rfl rfl (by decide +kernel) ⟨Nat.le_of_ble_eq_true rfl, Nat.le_of_ble_eq_true rfl⟩) (mP_V (r := (RX2, TX2, 5)) hN hE S_0 rfl) rfl rfl hl.1 rfl (lv_room (Nat.le_of_ble_eq_true rfl)) dX3_isSame_527 ⟨(by show _ ≤ 26; omega), (by show _ ≤ 116; omega)⟩) hE.2.2.2 (fun q _ h => mE_A hE q h) (mE_A hE) (fun r uq tq H locs ht hvm hw hB hz1 hk1 hS => ?_)
            obtain ⟨rfl, rfl⟩ := hw
            have hE : mE G (mA ad (Sy cy ad n k v (Si cy ad n k u x)) s.heap.size) s.heap ad (Sy cy ad n k v (Si cy ad n k u x)) H locs := mE_call hE hB ht hS
            refine lv_iload hx hb dX3_isSame_530 (lv_at hl 2 rfl) ?_
            refine lv_icmp_ne (tgt := 564) hx hb dX3_isSame_532 (by decide) (fun c10 => ?_) (fun c10 => ?_)
            · skip
              exact absurd rfl c10
            · skip
              refine lv_aload_n hx hb dX3_isSame_535 rfl (lv_at hl 6 rfl) ?_
              refine va_calld (va_runV (As := []) (rest := []) ⟨hx, hb, hml, hown, hts⟩ (c_X2_mean l G cy ad n k v (Si cy ad n k u x) hn hk _) (cwV 0 hts gX3_isSame_X2_mean rfl rfl rfl (by decide +kernel) ⟨Nat.le_of_ble_eq_true rfl, Nat.le_of_ble_eq_true rfl⟩) (mP_V (r := (RX2, TX2, 5)) hN hE S_0 rfl) rfl rfl hl.1 rfl (lv_room (Nat.le_of_ble_eq_true rfl)) dX3_isSame_536 ⟨(by show _ ≤ 26; omega), (by show _ ≤ 116; omega)⟩) hE.2.2.2 (fun q _ h => mE_A hE q h) (mE_A hE) (fun r uq tq H locs ht hvm hw hB hz1 hk1 hS => ?_)
              obtain ⟨rfl, rfl⟩ := hw
              have hE : mE G (mA ad (Sy cy ad n k v (Si cy ad n k u x)) s.heap.size) s.heap ad (Sy cy ad n k v (Si cy ad n k u x)) H locs := mE_call hE hB ht hS
              rw [if_neg (show ¬ n = 0 by omega)]
              refine lv_iload_n hx hb dX3_isSame_539 rfl (lv_at hl 4 rfl) ?_
              refine lv_if_ne (tgt := 547) hx hb dX3_isSame_540 (by decide) (fun c11 => ?_) (fun c11 => ?_)
              · skip
                have c11 : ¬ n = 0 := fun h9 => c11 ((mz_eq (by omega)).mpr h9)
                refine lv_iload hx hb dX3_isSame_547 (lv_at hl 1 rfl) ?_
                refine lv_i2d hx hb dX3_isSame_549 ?_
                refine lv_bipush (v := nI 31) hx hb dX3_isSame_550 (by decide) ?_
                refine lv_iload_n hx hb dX3_isSame_552 rfl (lv_at hl 4 rfl) ?_
                refine mv_imul (z := nI (31 * n)) hx hb (pk_mul _ _) dX3_isSame_553 ?_
                refine lv_i2d hx hb dX3_isSame_554 ?_
                refine lv_ddiv hx hb dX3_isSame_555 (mv_div _ _ (nI_ne0 (by omega) (by omega))) ?_
                refine lv_dcmp hx hb dX3_isSame_556 ?_
                refine lv_if_ne (tgt := 564) hx hb dX3_isSame_557 (by decide) (fun c12 => ?_) (fun c12 => ?_)
                · skip
                  exact absurd (jDc _ _ (nI_ne0 (by omega) (by omega))) c12
                · skip
                  refine lv_iconst (v := nI 1) hx hb dX3_isSame_560 (by decide) ?_
                  refine lv_goto (tgt := 565) hx hb dX3_isSame_561 (by decide) ?_
                  refine W.widen (k := 26) (n := 116) (by omega) (by omega) ?_
                  exact mx_zret hx hb hr rfl hE hlocks rfl dX3_isSame_565
              · skip
                have c11 := (mz_eq (by omega)).mp c11
                exfalso; omega
    · skip
      have h_j : j < k := by omega
      have hcs := jV_cs hJ h_j
      refine lv_iconst (v := nI 4) hx hb dX3_isSame_387 (by decide) ?_
      refine mx_newi hx hb (hts (.arrayClass .int) (by decide +kernel)) hN hE 60 ((S_r (by decide) (by decide)).trans ((Q_r h60).trans x60)) (by decide) rfl (by decide) (by show _ ≤ 26; omega) (by show _ ≤ 116; omega) dX3_isSame_388 (fun ad1 H hj1 hE => ?_)
      have hl : lv_has ls 13 [(6, .int (nI j)), (5, .int (mTot (fun i => v (300 + i)) n)), (4, .int (mChs v n)), (3, .int (nI (mDif v n))), (2, .int (nI n)), (0, .ref (ad1 4)), (1, .ref (ad1 0))] := by rw [hj1 0 (by decide), hj1 4 (by decide)]; exact hl
      have w1 : mU (Sy cy ad n k v (Si cy ad n k u x)) 60 (mI cy 4 (fun _ => 0)) = Sy cy ad1 n k v (Si cy ad1 n k u (mU x (60) (mI cy 4 (fun _ => 0)))) := by rw [S_ux (by decide) (by decide), Q_ux h60, Q_ad (ad' := ad1) (fun j hj => hj1 j (fun h => h60 (h ▸ hj))), S_adc (ad' := ad1) (fun j hj => hj1 j (by omega))]
      rw [w1] at hE
      refine lv_dup hx hb dX3_isSame_390 rfl ?_
      refine lv_iconst (v := nI 0) hx hb dX3_isSame_391 (by decide) ?_
      refine lv_aload_n hx hb dX3_isSame_392 rfl (lv_at hl 5 rfl) ?_
      refine va_get (D := G) (ci := 3) (v := .ref (ad1 6)) (C := RX3) (T := TX3) (N := 3) hx hb hts hiX3 hown hN.1 (mE_P1 hE ((S_r (by omega) (by omega)).trans (Q_4))) 0 rfl rfl 1 (by decide) (hts (.fieldLink RX3 15 "SealedCupboardsLaw$Sim" "seals" "[[I") (by decide +kernel)) (fun _ h9 => h9) rfl dX3_isSame_393 ?_
      refine lv_iload hx hb dX3_isSame_396 (lv_at hl 0 rfl) ?_
      refine mx_ralda hx hb hN hE ((S_r (by omega) (by omega)).trans (Q_6)) (j := j) rfl (by omega) (by omega) (Q_6at h_j) dX3_isSame_398 ?_
      refine lv_iconst (v := nI 0) hx hb dX3_isSame_399 (by decide) ?_
      refine mx_iald hx hb hN hE ((S_r (by omega) (by omega)).trans ((Q_se hN6 h_j rfl))) (j := 0) rfl (by omega) (by decide) dX3_isSame_400 ?_
      rw [jV_s hJ h_j (by decide), jV_0 hJ h_j]
      refine mx_iast hx hb hN hE ((S_r (by omega) (by omega)).trans ((Q_r (by unfold jIs; omega)).trans (mU_s _ _ _))) (j := 0) rfl (by omega) (by decide) dX3_isSame_401 (fun H locs hE => ?_)
      have hE : mE G (mA ad (Sy cy ad n k v (Si cy ad n k u x)) s.heap.size) s.heap ad1 (Sy cy ad1 n k v (Si cy ad1 n k u (mU x (60) (mI cy 4 (upd ((fun _ => 0)) 0 (nI (cs j))))))) H locs := by rw [S_ux (by omega) (by omega), Q_ux (by unfold jIs; omega), jU_uu] at hE; exact hE
      refine lv_dup hx hb dX3_isSame_402 rfl ?_
      refine lv_iconst (v := nI 1) hx hb dX3_isSame_403 (by decide) ?_
      refine lv_aload_n hx hb dX3_isSame_404 rfl (lv_at hl 5 rfl) ?_
      refine va_get (D := G) (ci := 3) (v := .ref (ad1 6)) (C := RX3) (T := TX3) (N := 3) hx hb hts hiX3 hown hN.1 (mE_P1 hE ((S_r (by omega) (by omega)).trans (Q_4))) 0 rfl rfl 1 (by decide) (hts (.fieldLink RX3 15 "SealedCupboardsLaw$Sim" "seals" "[[I") (by decide +kernel)) (fun _ h9 => h9) rfl dX3_isSame_405 ?_
      refine lv_iload hx hb dX3_isSame_408 (lv_at hl 0 rfl) ?_
      refine mx_ralda hx hb hN hE ((S_r (by omega) (by omega)).trans (Q_6)) (j := j) rfl (by omega) (by omega) (Q_6at h_j) dX3_isSame_410 ?_
      refine lv_iconst (v := nI 1) hx hb dX3_isSame_411 (by decide) ?_
      refine mx_iald hx hb hN hE ((S_r (by omega) (by omega)).trans ((Q_se hN6 h_j rfl))) (j := 1) rfl (by omega) (by decide) dX3_isSame_412 ?_
      rw [jV_s hJ h_j (by decide)]
      refine mx_iast hx hb hN hE ((S_r (by omega) (by omega)).trans ((Q_r (by unfold jIs; omega)).trans (mU_s _ _ _))) (j := 1) rfl (by omega) (by decide) dX3_isSame_413 (fun H locs hE => ?_)
      have hE : mE G (mA ad (Sy cy ad n k v (Si cy ad n k u x)) s.heap.size) s.heap ad1 (Sy cy ad1 n k v (Si cy ad1 n k u (mU x (60) (mI cy 4 (upd ((upd ((fun _ => 0)) 0 (nI (cs j)))) 1 (v (400 + j) 1)))))) H locs := by rw [S_ux (by omega) (by omega), Q_ux (by unfold jIs; omega), jU_uu] at hE; exact hE
      refine lv_dup hx hb dX3_isSame_414 rfl ?_
      refine lv_iconst (v := nI 2) hx hb dX3_isSame_415 (by decide) ?_
      refine lv_aload_n hx hb dX3_isSame_416 rfl (lv_at hl 5 rfl) ?_
      refine va_get (D := G) (ci := 3) (v := .ref (ad1 6)) (C := RX3) (T := TX3) (N := 3) hx hb hts hiX3 hown hN.1 (mE_P1 hE ((S_r (by omega) (by omega)).trans (Q_4))) 0 rfl rfl 1 (by decide) (hts (.fieldLink RX3 15 "SealedCupboardsLaw$Sim" "seals" "[[I") (by decide +kernel)) (fun _ h9 => h9) rfl dX3_isSame_417 ?_
      refine lv_iload hx hb dX3_isSame_420 (lv_at hl 0 rfl) ?_
      refine mx_ralda hx hb hN hE ((S_r (by omega) (by omega)).trans (Q_6)) (j := j) rfl (by omega) (by omega) (Q_6at h_j) dX3_isSame_422 ?_
      refine lv_iconst (v := nI 2) hx hb dX3_isSame_423 (by decide) ?_
      refine mx_iald hx hb hN hE ((S_r (by omega) (by omega)).trans ((Q_se hN6 h_j rfl))) (j := 2) rfl (by omega) (by decide) dX3_isSame_424 ?_
      rw [jV_s hJ h_j (by decide)]
      refine mx_iast hx hb hN hE ((S_r (by omega) (by omega)).trans ((Q_r (by unfold jIs; omega)).trans (mU_s _ _ _))) (j := 2) rfl (by omega) (by decide) dX3_isSame_425 (fun H locs hE => ?_)
      have hE : mE G (mA ad (Sy cy ad n k v (Si cy ad n k u x)) s.heap.size) s.heap ad1 (Sy cy ad1 n k v (Si cy ad1 n k u (mU x (60) (mI cy 4 (upd ((upd ((upd ((fun _ => 0)) 0 (nI (cs j)))) 1 (v (400 + j) 1))) 2 (v (400 + j) 2)))))) H locs := by rw [S_ux (by omega) (by omega), Q_ux (by unfold jIs; omega), jU_uu] at hE; exact hE
      refine lv_dup hx hb dX3_isSame_426 rfl ?_
      refine lv_iconst (v := nI 3) hx hb dX3_isSame_427 (by decide) ?_
      refine lv_aload_n hx hb dX3_isSame_428 rfl (lv_at hl 5 rfl) ?_
      refine va_get (D := G) (ci := 3) (v := .ref (ad1 7)) (C := RX3) (T := TX3) (N := 3) hx hb hts hiX3 hown hN.1 (mE_P1 hE ((S_r (by omega) (by omega)).trans (Q_4))) 0 rfl rfl 2 (by decide) (hts (.fieldLink RX3 18 "SealedCupboardsLaw$Sim" "changes" "[I") (by decide +kernel)) (fun _ h9 => h9) rfl dX3_isSame_429 ?_
      refine lv_aload_n hx hb dX3_isSame_432 rfl (lv_at hl 5 rfl) ?_
      refine va_get (D := G) (ci := 3) (v := .ref (ad1 6)) (C := RX3) (T := TX3) (N := 3) hx hb hts hiX3 hown hN.1 (mE_P1 hE ((S_r (by omega) (by omega)).trans (Q_4))) 0 rfl rfl 1 (by decide) (hts (.fieldLink RX3 15 "SealedCupboardsLaw$Sim" "seals" "[[I") (by decide +kernel)) (fun _ h9 => h9) rfl dX3_isSame_433 ?_
      refine lv_iload hx hb dX3_isSame_436 (lv_at hl 0 rfl) ?_
      refine mx_ralda hx hb hN hE ((S_r (by omega) (by omega)).trans (Q_6)) (j := j) rfl (by omega) (by omega) (Q_6at h_j) dX3_isSame_438 ?_
      refine lv_iconst (v := nI 0) hx hb dX3_isSame_439 (by decide) ?_
      refine mx_iald hx hb hN hE ((S_r (by omega) (by omega)).trans ((Q_se hN6 h_j rfl))) (j := 0) rfl (by omega) (by decide) dX3_isSame_440 ?_
      rw [jV_s hJ h_j (by decide), jV_0 hJ h_j]
      refine mx_iald hx hb hN hE ((S_r (by omega) (by omega)).trans ((Q_7e rfl))) (j := cs j) rfl (by omega) (by decide) dX3_isSame_441 ?_
      rw [jV_7 hJ hcs]
      refine lv_aload_n hx hb dX3_isSame_442 rfl (lv_at hl 5 rfl) ?_
      refine va_get (D := G) (ci := 3) (v := .ref (ad1 6)) (C := RX3) (T := TX3) (N := 3) hx hb hts hiX3 hown hN.1 (mE_P1 hE ((S_r (by omega) (by omega)).trans (Q_4))) 0 rfl rfl 1 (by decide) (hts (.fieldLink RX3 15 "SealedCupboardsLaw$Sim" "seals" "[[I") (by decide +kernel)) (fun _ h9 => h9) rfl dX3_isSame_443 ?_
      refine lv_iload hx hb dX3_isSame_446 (lv_at hl 0 rfl) ?_
      refine mx_ralda hx hb hN hE ((S_r (by omega) (by omega)).trans (Q_6)) (j := j) rfl (by omega) (by omega) (Q_6at h_j) dX3_isSame_448 ?_
      refine lv_iconst (v := nI 2) hx hb dX3_isSame_449 (by decide) ?_
      refine mx_iald hx hb hN hE ((S_r (by omega) (by omega)).trans ((Q_se hN6 h_j rfl))) (j := 2) rfl (by omega) (by decide) dX3_isSame_450 ?_
      rw [jV_s hJ h_j (by decide)]
      refine mv_isub (z := (v (100 + cs j) 2) - (v (400 + j) 2)) hx hb rfl dX3_isSame_451 ?_
      refine mx_iast hx hb hN hE ((S_r (by omega) (by omega)).trans ((Q_r (by unfold jIs; omega)).trans (mU_s _ _ _))) (j := 3) rfl (by omega) (by decide) dX3_isSame_452 (fun H locs hE => ?_)
      have hE : mE G (mA ad (Sy cy ad n k v (Si cy ad n k u x)) s.heap.size) s.heap ad1 (Sy cy ad1 n k v (Si cy ad1 n k u (mU x (60) (mI cy 4 (upd ((upd ((upd ((upd ((fun _ => 0)) 0 (nI (cs j)))) 1 (v (400 + j) 1))) 2 (v (400 + j) 2))) 3 ((v (100 + cs j) 2) - (v (400 + j) 2))))))) H locs := by rw [S_ux (by omega) (by omega), Q_ux (by unfold jIs; omega), jU_uu] at hE; exact hE
      rw [jU_ini] at hE
      refine lv_astore (lv' := [(7, .ref (ad1 60)), (6, .int (nI j)), (5, .int (mTot (fun i => v (300 + i)) n)), (4, .int (mChs v n)), (3, .int (nI (mDif v n))), (2, .int (nI n)), (0, .ref (ad1 4)), (1, .ref (ad1 0))]) hx hb dX3_isSame_453 hl (by decide) rfl (fun ls hl => ?_)
      refine lv_iconst (v := nI 0) hx hb dX3_isSame_455 (by decide) ?_
      refine lv_istore (lv' := [(8, .int (nI 0)), (7, .ref (ad1 60)), (6, .int (nI j)), (5, .int (mTot (fun i => v (300 + i)) n)), (4, .int (mChs v n)), (3, .int (nI (mDif v n))), (2, .int (nI n)), (0, .ref (ad1 4)), (1, .ref (ad1 0))]) hx hb dX3_isSame_456 hl (by decide) rfl (fun ls hl => ?_)
      refine mx_loop (β := Nat) (fun n9 (w9 : Nat) H locs ls => n9 = 4 - w9 ∧ (w9 ≤ 4) ∧ mE G (mA ad (Sy cy ad n k v (Si cy ad n k u x)) s.heap.size) s.heap ad1 (Sy cy ad1 n k v (Si cy ad1 n k u (mU x (60) (mI cy 4 (jU (nI (cs j)) (v (400 + j) 1) (v (400 + j) 2) (v (100 + cs j) 2 - v (400 + j) 2)))))) H locs ∧ lv_has ls 13 [(8, .int (nI w9)), (7, .ref (ad1 60)), (6, .int (nI j)), (5, .int (mTot (fun i => v (300 + i)) n)), (4, .int (mChs v n)), (3, .int (nI (mDif v n))), (2, .int (nI n)), (0, .ref (ad1 4)), (1, .ref (ad1 0))]) ?_ (4 - 0) (0) _ _ _ ⟨rfl, (by omega), hE, lv_sub hl [0, 1, 2, 3, 4, 5, 6, 7, 8] rfl⟩
      intro n9 w9 H locs ls hI ih13
      obtain ⟨hn14, hle_w9, hE, hl⟩ := hI
      have hE : mE G (mA ad (Sy cy ad n k v (Si cy ad n k u x)) s.heap.size) s.heap ad1 (Sy cy ad1 n k v (Si cy ad1 n k u (mU x (60) (mI cy 4 (jU (nI (cs j)) (v (400 + j) 1) (v (400 + j) 2) (v (100 + cs j) 2 - v (400 + j) 2)))))) H locs := hE
      have hl : lv_has ls 13 [(8, .int (nI w9)), (7, .ref (ad1 60)), (6, .int (nI j)), (5, .int (mTot (fun i => v (300 + i)) n)), (4, .int (mChs v n)), (3, .int (nI (mDif v n))), (2, .int (nI n)), (0, .ref (ad1 4)), (1, .ref (ad1 0))] := hl
      refine lv_iload hx hb dX3_isSame_458 (lv_at hl 0 rfl) ?_
      refine lv_iconst (v := nI 4) hx hb dX3_isSame_460 (by decide) ?_
      refine mv_ge (tgt := 488) hx hb (by omega) (by omega) dX3_isSame_461 (by decide) (fun c15 => ?_) (fun c15 => ?_)
      · skip
        have hE : mE G (mA ad (Sy cy ad n k v (Si cy ad n k u x)) s.heap.size) s.heap ad1 (Sy cy ad1 n k v (Si cy ad1 n k u x)) H locs := mE_drop hE (fun j e hj => S_imp (fun _ _ h9 => Q_drop h60 x60 h9) hj)
        have w2 : Sy cy ad n k v (Si cy ad n k u x) = Sy cy ad1 n k v (Si cy ad1 n k u x) := by rw [Q_ad (ad' := ad1) (fun j hj => hj1 j (fun h => h60 (h ▸ hj))), S_adc (ad' := ad1) (fun j hj => hj1 j (by omega))]
        rw [← w2] at hE
        have hE : mE G (mA ad (Sy cy ad n k v (Si cy ad n k u x)) s.heap.size) s.heap ad (Sy cy ad n k v (Si cy ad n k u x)) H locs := mE_adr hE (fun j hj => (hj1 j (fun h => hj (by rw [h]; exact (S_r (by decide) (by decide)).trans ((Q_r h60).trans x60)))).symm)
        have hl : lv_has ls 13 [(8, .int (nI w9)), (6, .int (nI j)), (5, .int (mTot (fun i => v (300 + i)) n)), (4, .int (mChs v n)), (3, .int (nI (mDif v n))), (2, .int (nI n)), (0, .ref (ad1 4)), (1, .ref (ad1 0))] := lv_sub hl [0, 2, 3, 4, 5, 6, 7, 8] rfl
        rw [hj1 0 (by decide), hj1 4 (by decide)] at hl
        refine lv_iinc (v := nI (j + 1)) (lv' := [(6, .int (nI (j + 1))), (8, .int (nI w9)), (5, .int (mTot (fun i => v (300 + i)) n)), (4, .int (mChs v n)), (3, .int (nI (mDif v n))), (2, .int (nI n)), (0, .ref (ad 4)), (1, .ref (ad 0))]) hx hb dX3_isSame_488 hl (k := 1) rfl (nI_add _ _) (by decide) rfl (fun ls hl => ?_)
        refine lv_goto (tgt := 377) hx hb dX3_isSame_491 (by decide) ?_
        refine W.widen (k := 6 + 1 * (k - (k - (j + 1)))) (n := 36 + 4 * (k - (k - (j + 1)))) (by omega) (by omega) ?_
        exact ih4 (k - (j + 1)) (j + 1) _ _ _ (by rw [hn5]; omega) ⟨rfl, (by omega), hE, lv_sub hl [0, 2, 3, 4, 5, 6, 7] rfl⟩
      · skip
        refine lv_aload_n hx hb dX3_isSame_464 rfl (lv_at hl 8 rfl) ?_
        refine lv_iload hx hb dX3_isSame_465 (lv_at hl 2 rfl) ?_
        refine lv_iload hx hb dX3_isSame_467 (lv_at hl 0 rfl) ?_
        refine va_calli (va_runV (As := [.int (nI j), .int (nI w9)]) (rest := []) ⟨hx, hb, hml, hown, hts⟩ (c_X2_about l G cy ad1 n k v (Si cy ad1 n k u (mU x (60) (mI cy 4 (jU (nI (cs j)) (v (400 + j) 1) (v (400 + j) 2) (v (100 + cs j) 2 - v (400 + j) 2))))) hn hk _ j h_j w9 (by omega) (cs j) (jV_cs hJ h_j) (jV_0 hJ h_j)) (cwV 2 hts gX3_isSame_X2_about rfl rfl rfl (by decide +kernel) ⟨Nat.le_of_ble_eq_true rfl, Nat.le_of_ble_eq_true rfl⟩) (mP_V (r := (RX2, TX2, 5)) hN hE S_0 rfl) rfl rfl hl.1 rfl (lv_room (Nat.le_of_ble_eq_true rfl)) dX3_isSame_469 ⟨(by show _ ≤ 26; omega), (by show _ ≤ 116; omega)⟩) hE.2.2.2 (fun q _ h => mE_A hE q h) (mE_A hE) (fun r uq tq H locs ht hvm hw hB hz1 hk1 hS => ?_)
        obtain ⟨rfl, rfl⟩ := hw
        have hE : mE G (mA ad (Sy cy ad n k v (Si cy ad n k u x)) s.heap.size) s.heap ad1 (Sy cy ad1 n k v (Si cy ad1 n k u (mU x (60) (mI cy 4 (jU (nI (cs j)) (v (400 + j) 1) (v (400 + j) 2) (v (100 + cs j) 2 - v (400 + j) 2)))))) H locs := mE_call hE hB ht hS
        refine lv_aload hx hb dX3_isSame_472 (lv_at hl 1 rfl) ?_
        refine lv_iload hx hb dX3_isSame_474 (lv_at hl 0 rfl) ?_
        refine mx_iald hx hb hN hE ((S_r (by omega) (by omega)).trans ((Q_r (by unfold jIs; omega)).trans (mU_s _ _ _))) (j := w9) rfl (by omega) (by decide) dX3_isSame_476 ?_
        rw [jU_about (show w9 < 4 by omega)]
        refine lv_icmp_eq (tgt := 482) hx hb dX3_isSame_477 (by decide) (fun c16 => ?_) (fun c16 => ?_)
        · skip
          refine lv_iinc (v := nI (w9 + 1)) (lv' := [(8, .int (nI (w9 + 1))), (7, .ref (ad1 60)), (6, .int (nI j)), (5, .int (mTot (fun i => v (300 + i)) n)), (4, .int (mChs v n)), (3, .int (nI (mDif v n))), (2, .int (nI n)), (0, .ref (ad1 4)), (1, .ref (ad1 0))]) hx hb dX3_isSame_482 hl (k := 0) rfl (nI_add _ _) (by decide) rfl (fun ls hl => ?_)
          refine lv_goto (tgt := 458) hx hb dX3_isSame_485 (by decide) ?_
          exact ih13 (4 - (w9 + 1)) (w9 + 1) _ _ _ (by rw [hn14]; omega) ⟨rfl, (by omega), hE, lv_sub hl [0, 1, 2, 3, 4, 5, 6, 7, 8] rfl⟩
        · skip
          exact absurd rfl c16
  · skip
    have h_c : c < n := by omega
    refine lv_bipush (v := nI 6) hx hb dX3_isSame_23 (by decide) ?_
    refine mx_newi hx hb (hts (.arrayClass .int) (by decide +kernel)) hN hE 60 ((S_r (by decide) (by decide)).trans ((Q_r h60).trans x60)) (by decide) rfl (by decide) (by show _ ≤ 26; omega) (by show _ ≤ 116; omega) dX3_isSame_25 (fun ad1 H hj1 hE => ?_)
    have hl : lv_has ls 13 [(6, .int (nI c)), (5, .int (mTot (fun i => v (300 + i)) c)), (4, .int (mChs v c)), (3, .int (nI (mDif v c))), (2, .int (nI n)), (0, .ref (ad1 4)), (1, .ref (ad1 0))] := by rw [hj1 0 (by decide), hj1 4 (by decide)]; exact hl
    have w1 : mU (Sy cy ad n k v (Si cy ad n k u x)) 60 (mI cy 6 (fun _ => 0)) = Sy cy ad1 n k v (Si cy ad1 n k u (mU x (60) (mI cy 6 (fun _ => 0)))) := by rw [S_ux (by decide) (by decide), Q_ux h60, Q_ad (ad' := ad1) (fun j hj => hj1 j (fun h => h60 (h ▸ hj))), S_adc (ad' := ad1) (fun j hj => hj1 j (by omega))]
    rw [w1] at hE
    refine lv_dup hx hb dX3_isSame_27 rfl ?_
    refine lv_iconst (v := nI 0) hx hb dX3_isSame_28 (by decide) ?_
    refine lv_aload_n hx hb dX3_isSame_29 rfl (lv_at hl 5 rfl) ?_
    refine lv_iload hx hb dX3_isSame_30 (lv_at hl 0 rfl) ?_
    refine va_calli (va_runV (As := [.int (nI c)]) (rest := [.int (nI 0), .ref (ad1 60), .ref (ad1 60)]) ⟨hx, hb, hml, hown, hts⟩ (b_X3_root l G cy ad1 n k v n k u (mU x (60) (mI cy 6 (fun _ => 0))) hn hk _ c h_c) (cwV 1 hts gX3_isSame_X3_root rfl rfl rfl (by decide +kernel) ⟨Nat.le_of_ble_eq_true rfl, Nat.le_of_ble_eq_true rfl⟩) (mP_V (r := (RX3, TX3, 3)) hN hE ((S_r (by omega) (by omega)).trans (Q_4)) rfl) rfl rfl hl.1 rfl (lv_room (Nat.le_of_ble_eq_true rfl)) dX3_isSame_32 ⟨(by show _ ≤ 26; omega), (by show _ ≤ 116; omega)⟩) hE.2.2.2 (fun q _ h => mE_A hE q h) (mE_A hE) (fun r uq tq H locs ht hvm hw hB hz1 hk1 hS => ?_)
    obtain ⟨rfl, rfl⟩ := hw
    have hE : mE G (mA ad (Sy cy ad n k v (Si cy ad n k u x)) s.heap.size) s.heap ad1 (Sy cy ad1 n k v (Si cy ad1 n k u (mU x (60) (mI cy 6 (fun _ => 0))))) H locs := mE_call hE hB ht hS
    rw [← jV_S hJ h_c 1 (by decide) (by decide)]
    refine mx_iast hx hb hN hE ((S_r (by omega) (by omega)).trans ((Q_r (by unfold jIs; omega)).trans (mU_s _ _ _))) (j := 0) rfl (by omega) (by decide) dX3_isSame_35 (fun H locs hE => ?_)
    have hE : mE G (mA ad (Sy cy ad n k v (Si cy ad n k u x)) s.heap.size) s.heap ad1 (Sy cy ad1 n k v (Si cy ad1 n k u (mU x (60) (mI cy 6 (upd ((fun _ => 0)) 0 (v (300 + c) 1)))))) H locs := by rw [S_ux (by omega) (by omega), Q_ux (by unfold jIs; omega), jU_uu] at hE; exact hE
    refine lv_dup hx hb dX3_isSame_36 rfl ?_
    refine lv_iconst (v := nI 1) hx hb dX3_isSame_37 (by decide) ?_
    refine lv_aload_n hx hb dX3_isSame_38 rfl (lv_at hl 5 rfl) ?_
    refine va_get (D := G) (ci := 3) (v := .ref (ad1 7)) (C := RX3) (T := TX3) (N := 3) hx hb hts hiX3 hown hN.1 (mE_P1 hE ((S_r (by omega) (by omega)).trans (Q_4))) 0 rfl rfl 2 (by decide) (hts (.fieldLink RX3 18 "SealedCupboardsLaw$Sim" "changes" "[I") (by decide +kernel)) (fun _ h9 => h9) rfl dX3_isSame_39 ?_
    refine lv_iload hx hb dX3_isSame_42 (lv_at hl 0 rfl) ?_
    refine mx_iald hx hb hN hE ((S_r (by omega) (by omega)).trans ((Q_7e rfl))) (j := c) rfl (by omega) (by decide) dX3_isSame_44 ?_
    rw [jV_7 hJ h_c]
    refine mx_iast hx hb hN hE ((S_r (by omega) (by omega)).trans ((Q_r (by unfold jIs; omega)).trans (mU_s _ _ _))) (j := 1) rfl (by omega) (by decide) dX3_isSame_45 (fun H locs hE => ?_)
    have hE : mE G (mA ad (Sy cy ad n k v (Si cy ad n k u x)) s.heap.size) s.heap ad1 (Sy cy ad1 n k v (Si cy ad1 n k u (mU x (60) (mI cy 6 (upd ((upd ((fun _ => 0)) 0 (v (300 + c) 1))) 1 (v (100 + c) 2)))))) H locs := by rw [S_ux (by omega) (by omega), Q_ux (by unfold jIs; omega), jU_uu] at hE; exact hE
    refine lv_dup hx hb dX3_isSame_46 rfl ?_
    refine lv_iconst (v := nI 2) hx hb dX3_isSame_47 (by decide) ?_
    refine lv_iconst (v := nI 0) hx hb dX3_isSame_48 (by decide) ?_
    refine mx_iast hx hb hN hE ((S_r (by omega) (by omega)).trans ((Q_r (by unfold jIs; omega)).trans (mU_s _ _ _))) (j := 2) rfl (by omega) (by decide) dX3_isSame_49 (fun H locs hE => ?_)
    have hE : mE G (mA ad (Sy cy ad n k v (Si cy ad n k u x)) s.heap.size) s.heap ad1 (Sy cy ad1 n k v (Si cy ad1 n k u (mU x (60) (mI cy 6 (upd ((upd ((upd ((fun _ => 0)) 0 (v (300 + c) 1))) 1 (v (100 + c) 2))) 2 (nI 0)))))) H locs := by rw [S_ux (by omega) (by omega), Q_ux (by unfold jIs; omega), jU_uu] at hE; exact hE
    refine lv_dup hx hb dX3_isSame_50 rfl ?_
    refine lv_iconst (v := nI 3) hx hb dX3_isSame_51 (by decide) ?_
    refine lv_iconst (v := nI 0) hx hb dX3_isSame_52 (by decide) ?_
    refine mx_iast hx hb hN hE ((S_r (by omega) (by omega)).trans ((Q_r (by unfold jIs; omega)).trans (mU_s _ _ _))) (j := 3) rfl (by omega) (by decide) dX3_isSame_53 (fun H locs hE => ?_)
    have hE : mE G (mA ad (Sy cy ad n k v (Si cy ad n k u x)) s.heap.size) s.heap ad1 (Sy cy ad1 n k v (Si cy ad1 n k u (mU x (60) (mI cy 6 (upd ((upd ((upd ((upd ((fun _ => 0)) 0 (v (300 + c) 1))) 1 (v (100 + c) 2))) 2 (nI 0))) 3 (nI 0)))))) H locs := by rw [S_ux (by omega) (by omega), Q_ux (by unfold jIs; omega), jU_uu] at hE; exact hE
    refine lv_dup hx hb dX3_isSame_54 rfl ?_
    refine lv_iconst (v := nI 4) hx hb dX3_isSame_55 (by decide) ?_
    refine lv_iconst (v := nI 0) hx hb dX3_isSame_56 (by decide) ?_
    refine mx_iast hx hb hN hE ((S_r (by omega) (by omega)).trans ((Q_r (by unfold jIs; omega)).trans (mU_s _ _ _))) (j := 4) rfl (by omega) (by decide) dX3_isSame_57 (fun H locs hE => ?_)
    have hE : mE G (mA ad (Sy cy ad n k v (Si cy ad n k u x)) s.heap.size) s.heap ad1 (Sy cy ad1 n k v (Si cy ad1 n k u (mU x (60) (mI cy 6 (upd ((upd ((upd ((upd ((upd ((fun _ => 0)) 0 (v (300 + c) 1))) 1 (v (100 + c) 2))) 2 (nI 0))) 3 (nI 0))) 4 (nI 0)))))) H locs := by rw [S_ux (by omega) (by omega), Q_ux (by unfold jIs; omega), jU_uu] at hE; exact hE
    refine lv_dup hx hb dX3_isSame_58 rfl ?_
    refine lv_iconst (v := nI 5) hx hb dX3_isSame_59 (by decide) ?_
    refine lv_iconst (v := nI 0) hx hb dX3_isSame_60 (by decide) ?_
    refine mx_iast hx hb hN hE ((S_r (by omega) (by omega)).trans ((Q_r (by unfold jIs; omega)).trans (mU_s _ _ _))) (j := 5) rfl (by omega) (by decide) dX3_isSame_61 (fun H locs hE => ?_)
    have hE : mE G (mA ad (Sy cy ad n k v (Si cy ad n k u x)) s.heap.size) s.heap ad1 (Sy cy ad1 n k v (Si cy ad1 n k u (mU x (60) (mI cy 6 (upd ((upd ((upd ((upd ((upd ((upd ((fun _ => 0)) 0 (v (300 + c) 1))) 1 (v (100 + c) 2))) 2 (nI 0))) 3 (nI 0))) 4 (nI 0))) 5 (nI 0)))))) H locs := by rw [S_ux (by omega) (by omega), Q_ux (by unfold jIs; omega), jU_uu] at hE; exact hE
    rw [jT_ini] at hE
    refine lv_astore (lv' := [(7, .ref (ad1 60)), (6, .int (nI c)), (5, .int (mTot (fun i => v (300 + i)) c)), (4, .int (mChs v c)), (3, .int (nI (mDif v c))), (2, .int (nI n)), (0, .ref (ad1 4)), (1, .ref (ad1 0))]) hx hb dX3_isSame_62 hl (by decide) rfl (fun ls hl => ?_)
    refine lv_iconst (v := nI 1) hx hb dX3_isSame_64 (by decide) ?_
    refine lv_istore (lv' := [(8, .int (nI 1)), (7, .ref (ad1 60)), (6, .int (nI c)), (5, .int (mTot (fun i => v (300 + i)) c)), (4, .int (mChs v c)), (3, .int (nI (mDif v c))), (2, .int (nI n)), (0, .ref (ad1 4)), (1, .ref (ad1 0))]) hx hb dX3_isSame_65 hl (by decide) rfl (fun ls hl => ?_)
    have e8 : nI 1 = mb (¬ mHas v (v (300 + c) 1) 0 = true) := (mb_t (show ¬ (false = true) from Bool.noConfusion)).symm
    rw [e8] at hl
    refine lv_iconst (v := nI 0) hx hb dX3_isSame_67 (by decide) ?_
    refine lv_istore (lv' := [(9, .int (nI 0)), (8, .int (mb (¬ mHas v (v (300 + c) 1) 0 = true))), (7, .ref (ad1 60)), (6, .int (nI c)), (5, .int (mTot (fun i => v (300 + i)) c)), (4, .int (mChs v c)), (3, .int (nI (mDif v c))), (2, .int (nI n)), (0, .ref (ad1 4)), (1, .ref (ad1 0))]) hx hb dX3_isSame_68 hl (by decide) rfl (fun ls hl => ?_)
    refine mx_loop (β := Nat) (fun n9 (b : Nat) H locs ls => n9 = c - b ∧ (b ≤ c) ∧ mE G (mA ad (Sy cy ad n k v (Si cy ad n k u x)) s.heap.size) s.heap ad1 (Sy cy ad1 n k v (Si cy ad1 n k u (mU x (60) (mI cy 6 (jT (v (300 + c) 1) (v (100 + c) 2) (nI 0) (nI 0) (nI 0) (nI 0)))))) H locs ∧ lv_has ls 13 [(9, .int (nI b)), (8, .int (mb (¬ mHas v (v (300 + c) 1) b = true))), (7, .ref (ad1 60)), (6, .int (nI c)), (5, .int (mTot (fun i => v (300 + i)) c)), (4, .int (mChs v c)), (3, .int (nI (mDif v c))), (2, .int (nI n)), (0, .ref (ad1 4)), (1, .ref (ad1 0))]) ?_ (c - 0) (0) _ _ _ ⟨rfl, (by omega), hE, lv_sub hl [0, 1, 2, 3, 4, 5, 6, 7, 8, 9] rfl⟩
    intro n9 b H locs ls hI ih17
    obtain ⟨hn18, hle_b, hE, hl⟩ := hI
    have hE : mE G (mA ad (Sy cy ad n k v (Si cy ad n k u x)) s.heap.size) s.heap ad1 (Sy cy ad1 n k v (Si cy ad1 n k u (mU x (60) (mI cy 6 (jT (v (300 + c) 1) (v (100 + c) 2) (nI 0) (nI 0) (nI 0) (nI 0)))))) H locs := hE
    have hl : lv_has ls 13 [(9, .int (nI b)), (8, .int (mb (¬ mHas v (v (300 + c) 1) b = true))), (7, .ref (ad1 60)), (6, .int (nI c)), (5, .int (mTot (fun i => v (300 + i)) c)), (4, .int (mChs v c)), (3, .int (nI (mDif v c))), (2, .int (nI n)), (0, .ref (ad1 4)), (1, .ref (ad1 0))] := hl
    refine lv_iload hx hb dX3_isSame_70 (lv_at hl 0 rfl) ?_
    refine lv_iload hx hb dX3_isSame_72 (lv_at hl 3 rfl) ?_
    refine mv_ge (tgt := 108) hx hb (by omega) (by omega) dX3_isSame_74 (by decide) (fun c19 => ?_) (fun c19 => ?_)
    · skip
      rw [show b = c by omega] at hl
      refine lv_iload_n hx hb dX3_isSame_108 rfl (lv_at hl 6 rfl) ?_
      refine lv_iload hx hb dX3_isSame_109 (lv_at hl 1 rfl) ?_
      refine lv_if_eq (tgt := 118) hx hb dX3_isSame_111 (by decide) (fun c20 => ?_) (fun c20 => ?_)
      · skip
        have c20 := mb_0.mp c20
        refine lv_iconst (v := nI 0) hx hb dX3_isSame_118 (by decide) ?_
        refine mv_iadd (z := nI ((mDif v c) + 0)) hx hb (nI_add _ _) dX3_isSame_119 ?_
        have e9 : (mDif v c) + 0 = mDif v (c + 1) := by show _ = mDif v c + (if mHas v (v (300 + c) 1) c = true then 0 else 1); rw [if_pos (Classical.not_not.mp c20)]
        rw [e9]
        refine lv_istore_n (lv' := [(3, .int (nI (mDif v (c + 1)))), (9, .int (nI c)), (8, .int (mb (¬ mHas v (v (300 + c) 1) c = true))), (7, .ref (ad1 60)), (6, .int (nI c)), (5, .int (mTot (fun i => v (300 + i)) c)), (4, .int (mChs v c)), (2, .int (nI n)), (0, .ref (ad1 4)), (1, .ref (ad1 0))]) hx hb dX3_isSame_120 rfl hl (by decide) rfl (fun ls hl => ?_)
        refine lv_iload hx hb dX3_isSame_121 (lv_at hl 6 rfl) ?_
        refine lv_aload_n hx hb dX3_isSame_123 rfl (lv_at hl 8 rfl) ?_
        refine va_get (D := G) (ci := 3) (v := .ref (ad1 7)) (C := RX3) (T := TX3) (N := 3) hx hb hts hiX3 hown hN.1 (mE_P1 hE ((S_r (by omega) (by omega)).trans (Q_4))) 0 rfl rfl 2 (by decide) (hts (.fieldLink RX3 18 "SealedCupboardsLaw$Sim" "changes" "[I") (by decide +kernel)) (fun _ h9 => h9) rfl dX3_isSame_124 ?_
        refine lv_iload hx hb dX3_isSame_127 (lv_at hl 4 rfl) ?_
        refine mx_iald hx hb hN hE ((S_r (by omega) (by omega)).trans ((Q_7e rfl))) (j := c) rfl (by omega) (by decide) dX3_isSame_129 ?_
        rw [jV_7 hJ h_c]
        refine mv_iadd (z := (mChs v c) + (v (100 + c) 2)) hx hb rfl dX3_isSame_130 ?_
        refine lv_istore (lv' := [(4, .int ((mChs v c) + (v (100 + c) 2))), (3, .int (nI (mDif v (c + 1)))), (9, .int (nI c)), (8, .int (mb (¬ mHas v (v (300 + c) 1) c = true))), (7, .ref (ad1 60)), (6, .int (nI c)), (5, .int (mTot (fun i => v (300 + i)) c)), (2, .int (nI n)), (0, .ref (ad1 4)), (1, .ref (ad1 0))]) hx hb dX3_isSame_131 hl (by decide) rfl (fun ls hl => ?_)
        have hl : lv_has ls 13 [(4, .int (mChs v (c + 1))), (3, .int (nI (mDif v (c + 1)))), (9, .int (nI c)), (8, .int (mb (¬ mHas v (v (300 + c) 1) c = true))), (7, .ref (ad1 60)), (6, .int (nI c)), (5, .int (mTot (fun i => v (300 + i)) c)), (2, .int (nI n)), (0, .ref (ad1 4)), (1, .ref (ad1 0))] := hl
        refine lv_iconst (v := nI 0) hx hb dX3_isSame_133 (by decide) ?_
        refine lv_istore (lv' := [(9, .int (nI 0)), (4, .int (mChs v (c + 1))), (3, .int (nI (mDif v (c + 1)))), (8, .int (mb (¬ mHas v (v (300 + c) 1) c = true))), (7, .ref (ad1 60)), (6, .int (nI c)), (5, .int (mTot (fun i => v (300 + i)) c)), (2, .int (nI n)), (0, .ref (ad1 4)), (1, .ref (ad1 0))]) hx hb dX3_isSame_134 hl (by decide) rfl (fun ls hl => ?_)
        refine mx_loop (β := Nat) (fun n9 (d : Nat) H locs ls => n9 = 16 - d ∧ (d ≤ 16) ∧ mE G (mA ad (Sy cy ad n k v (Si cy ad n k u x)) s.heap.size) s.heap ad1 (Sy cy ad1 n k v (Si cy ad1 n k u (mU x (60) (mI cy 6 (jT (v (300 + c) 1) (v (100 + c) 2) (nI (mFill (v (200 + c)) d)) (mAdd (v (200 + c)) d) (nI 0) (nI 0)))))) H locs ∧ lv_has ls 13 [(9, .int (nI d)), (7, .ref (ad1 60)), (6, .int (nI c)), (5, .int (mTot (fun i => v (300 + i)) c)), (4, .int (mChs v (c + 1))), (3, .int (nI (mDif v (c + 1)))), (2, .int (nI n)), (0, .ref (ad1 4)), (1, .ref (ad1 0))]) ?_ (16 - 0) (0) _ _ _ ⟨rfl, (by omega), hE, lv_sub hl [0, 4, 5, 6, 1, 2, 7, 8, 9] rfl⟩
        intro n9 d H locs ls hI ih21
        obtain ⟨hn22, hle_d, hE, hl⟩ := hI
        have hfl := mFill_le (v (200 + c)) d
        have hE : mE G (mA ad (Sy cy ad n k v (Si cy ad n k u x)) s.heap.size) s.heap ad1 (Sy cy ad1 n k v (Si cy ad1 n k u (mU x (60) (mI cy 6 (jT (v (300 + c) 1) (v (100 + c) 2) (nI (mFill (v (200 + c)) d)) (mAdd (v (200 + c)) d) (nI 0) (nI 0)))))) H locs := hE
        have hl : lv_has ls 13 [(9, .int (nI d)), (7, .ref (ad1 60)), (6, .int (nI c)), (5, .int (mTot (fun i => v (300 + i)) c)), (4, .int (mChs v (c + 1))), (3, .int (nI (mDif v (c + 1)))), (2, .int (nI n)), (0, .ref (ad1 4)), (1, .ref (ad1 0))] := hl
        refine lv_iload hx hb dX3_isSame_136 (lv_at hl 0 rfl) ?_
        refine lv_bipush (v := nI 16) hx hb dX3_isSame_138 (by decide) ?_
        refine mv_ge (tgt := 214) hx hb (by omega) (by omega) dX3_isSame_140 (by decide) (fun c23 => ?_) (fun c23 => ?_)
        · skip
          rw [show d = 16 by omega] at hE
          have hE : mE G (mA ad (Sy cy ad n k v (Si cy ad n k u x)) s.heap.size) s.heap ad1 (Sy cy ad1 n k v (Si cy ad1 n k u (mU x (60) (mI cy 6 (jT (v (300 + c) 1) (v (100 + c) 2) (nI (mFill (v (200 + c)) 16)) (mAdd (v (200 + c)) 16) (nI (mSof v (nI c) 0)) (nI (mSkp v (nI c) (v (300 + c) 1) 0))))))) H locs := hE
          refine lv_aload_n hx hb dX3_isSame_214 rfl (lv_at hl 7 rfl) ?_
          refine va_get (D := G) (ci := 3) (v := .ref (ad1 6)) (C := RX3) (T := TX3) (N := 3) hx hb hts hiX3 hown hN.1 (mE_P1 hE ((S_r (by omega) (by omega)).trans (Q_4))) 0 rfl rfl 1 (by decide) (hts (.fieldLink RX3 15 "SealedCupboardsLaw$Sim" "seals" "[[I") (by decide +kernel)) (fun _ h9 => h9) rfl dX3_isSame_215 ?_
          refine lv_astore (lv' := [(9, .ref (ad1 6)), (7, .ref (ad1 60)), (6, .int (nI c)), (5, .int (mTot (fun i => v (300 + i)) c)), (4, .int (mChs v (c + 1))), (3, .int (nI (mDif v (c + 1)))), (2, .int (nI n)), (0, .ref (ad1 4)), (1, .ref (ad1 0))]) hx hb dX3_isSame_218 hl (by decide) rfl (fun ls hl => ?_)
          refine lv_aload hx hb dX3_isSame_220 (lv_at hl 0 rfl) ?_
          refine va_alen (v := nI k) hx hb hN.1 (mE_P1 hE ((S_r (by omega) (by omega)).trans (Q_6))) 0 3 rfl rfl rfl dX3_isSame_222 ?_
          refine lv_istore (lv' := [(10, .int (nI k)), (9, .ref (ad1 6)), (7, .ref (ad1 60)), (6, .int (nI c)), (5, .int (mTot (fun i => v (300 + i)) c)), (4, .int (mChs v (c + 1))), (3, .int (nI (mDif v (c + 1)))), (2, .int (nI n)), (0, .ref (ad1 4)), (1, .ref (ad1 0))]) hx hb dX3_isSame_223 hl (by decide) rfl (fun ls hl => ?_)
          refine lv_iconst (v := nI 0) hx hb dX3_isSame_225 (by decide) ?_
          refine lv_istore (lv' := [(11, .int (nI 0)), (10, .int (nI k)), (9, .ref (ad1 6)), (7, .ref (ad1 60)), (6, .int (nI c)), (5, .int (mTot (fun i => v (300 + i)) c)), (4, .int (mChs v (c + 1))), (3, .int (nI (mDif v (c + 1)))), (2, .int (nI n)), (0, .ref (ad1 4)), (1, .ref (ad1 0))]) hx hb dX3_isSame_226 hl (by decide) rfl (fun ls hl => ?_)
          refine mx_loop (β := Nat) (fun n9 (j9 : Nat) H locs ls => n9 = k - j9 ∧ (j9 ≤ k) ∧ mE G (mA ad (Sy cy ad n k v (Si cy ad n k u x)) s.heap.size) s.heap ad1 (Sy cy ad1 n k v (Si cy ad1 n k u (mU x (60) (mI cy 6 (jT (v (300 + c) 1) (v (100 + c) 2) (nI (mFill (v (200 + c)) 16)) (mAdd (v (200 + c)) 16) (nI (mSof v (nI c) j9)) (nI (mSkp v (nI c) (v (300 + c) 1) j9))))))) H locs ∧ lv_has ls 13 [(11, .int (nI j9)), (10, .int (nI k)), (9, .ref (ad1 6)), (7, .ref (ad1 60)), (6, .int (nI c)), (5, .int (mTot (fun i => v (300 + i)) c)), (4, .int (mChs v (c + 1))), (3, .int (nI (mDif v (c + 1)))), (2, .int (nI n)), (0, .ref (ad1 4)), (1, .ref (ad1 0))]) ?_ (k - 0) (0) _ _ _ ⟨rfl, (by omega), hE, lv_sub hl [0, 1, 2, 3, 4, 5, 6, 7, 8, 9, 10] rfl⟩
          intro n9 j9 H locs ls hI ih24
          obtain ⟨hn25, hle_j9, hE, hl⟩ := hI
          have hs1 := mSof_le v (nI c) j9
          have hs2 := mSkp_le v (nI c) (v (300 + c) 1) j9
          have hE : mE G (mA ad (Sy cy ad n k v (Si cy ad n k u x)) s.heap.size) s.heap ad1 (Sy cy ad1 n k v (Si cy ad1 n k u (mU x (60) (mI cy 6 (jT (v (300 + c) 1) (v (100 + c) 2) (nI (mFill (v (200 + c)) 16)) (mAdd (v (200 + c)) 16) (nI (mSof v (nI c) j9)) (nI (mSkp v (nI c) (v (300 + c) 1) j9))))))) H locs := hE
          have hl : lv_has ls 13 [(11, .int (nI j9)), (10, .int (nI k)), (9, .ref (ad1 6)), (7, .ref (ad1 60)), (6, .int (nI c)), (5, .int (mTot (fun i => v (300 + i)) c)), (4, .int (mChs v (c + 1))), (3, .int (nI (mDif v (c + 1)))), (2, .int (nI n)), (0, .ref (ad1 4)), (1, .ref (ad1 0))] := hl
          refine lv_iload hx hb dX3_isSame_228 (lv_at hl 0 rfl) ?_
          refine lv_iload hx hb dX3_isSame_230 (lv_at hl 1 rfl) ?_
          refine mv_ge (tgt := 301) hx hb (by omega) (by omega) dX3_isSame_232 (by decide) (fun c26 => ?_) (fun c26 => ?_)
          · skip
            rw [show j9 = k by omega] at hE
            refine lv_iconst (v := nI 0) hx hb dX3_isSame_301 (by decide) ?_
            refine lv_istore (lv' := [(9, .int (nI 0)), (11, .int (nI j9)), (10, .int (nI k)), (7, .ref (ad1 60)), (6, .int (nI c)), (5, .int (mTot (fun i => v (300 + i)) c)), (4, .int (mChs v (c + 1))), (3, .int (nI (mDif v (c + 1)))), (2, .int (nI n)), (0, .ref (ad1 4)), (1, .ref (ad1 0))]) hx hb dX3_isSame_302 hl (by decide) rfl (fun ls hl => ?_)
            refine mx_loop (β := Nat) (fun n9 (w9 : Nat) H locs ls => n9 = 6 - w9 ∧ (w9 ≤ 6) ∧ mE G (mA ad (Sy cy ad n k v (Si cy ad n k u x)) s.heap.size) s.heap ad1 (Sy cy ad1 n k v (Si cy ad1 n k u (mU x (60) (mI cy 6 (jT (v (300 + c) 1) (v (100 + c) 2) (nI (mFill (v (200 + c)) 16)) (mAdd (v (200 + c)) 16) (nI (mSof v (nI c) k)) (nI (mSkp v (nI c) (v (300 + c) 1) k))))))) H locs ∧ lv_has ls 13 [(9, .int (nI w9)), (7, .ref (ad1 60)), (6, .int (nI c)), (5, .int (mTot (fun i => v (300 + i)) c)), (4, .int (mChs v (c + 1))), (3, .int (nI (mDif v (c + 1)))), (2, .int (nI n)), (0, .ref (ad1 4)), (1, .ref (ad1 0))]) ?_ (6 - 0) (0) _ _ _ ⟨rfl, (by omega), hE, lv_sub hl [0, 3, 4, 5, 6, 7, 8, 9, 10] rfl⟩
            intro n9 w9 H locs ls hI ih27
            obtain ⟨hn28, hle_w9, hE, hl⟩ := hI
            have hE : mE G (mA ad (Sy cy ad n k v (Si cy ad n k u x)) s.heap.size) s.heap ad1 (Sy cy ad1 n k v (Si cy ad1 n k u (mU x (60) (mI cy 6 (jT (v (300 + c) 1) (v (100 + c) 2) (nI (mFill (v (200 + c)) 16)) (mAdd (v (200 + c)) 16) (nI (mSof v (nI c) k)) (nI (mSkp v (nI c) (v (300 + c) 1) k))))))) H locs := hE
            have hl : lv_has ls 13 [(9, .int (nI w9)), (7, .ref (ad1 60)), (6, .int (nI c)), (5, .int (mTot (fun i => v (300 + i)) c)), (4, .int (mChs v (c + 1))), (3, .int (nI (mDif v (c + 1)))), (2, .int (nI n)), (0, .ref (ad1 4)), (1, .ref (ad1 0))] := hl
            refine lv_iload hx hb dX3_isSame_304 (lv_at hl 0 rfl) ?_
            refine lv_bipush (v := nI 6) hx hb dX3_isSame_306 (by decide) ?_
            refine mv_ge (tgt := 335) hx hb (by omega) (by omega) dX3_isSame_308 (by decide) (fun c29 => ?_) (fun c29 => ?_)
            · skip
              refine lv_iconst (v := nI 1) hx hb dX3_isSame_335 (by decide) ?_
              refine lv_istore (lv' := [(9, .int (nI 1)), (7, .ref (ad1 60)), (6, .int (nI c)), (5, .int (mTot (fun i => v (300 + i)) c)), (4, .int (mChs v (c + 1))), (3, .int (nI (mDif v (c + 1)))), (2, .int (nI n)), (0, .ref (ad1 4)), (1, .ref (ad1 0))]) hx hb dX3_isSame_336 hl (by decide) rfl (fun ls hl => ?_)
              refine mx_loop (β := Nat) (fun n9 (q : Nat) H locs ls => n9 = 31 - q ∧ (q ≤ 31) ∧ mE G (mA ad (Sy cy ad n k v (Si cy ad n k u x)) s.heap.size) s.heap ad1 (Sy cy ad1 n k v (Si cy ad1 n k u (mU x (60) (mI cy 6 (jT (v (300 + c) 1) (v (100 + c) 2) (nI (mFill (v (200 + c)) 16)) (mAdd (v (200 + c)) 16) (nI (mSof v (nI c) k)) (nI (mSkp v (nI c) (v (300 + c) 1) k))))))) H locs ∧ lv_has ls 13 [(9, .int (nI (q + 1))), (6, .int (nI c)), (5, .int (mTo1 (v (300 + c)) (mTot (fun i => v (300 + i)) c) q)), (4, .int (mChs v (c + 1))), (3, .int (nI (mDif v (c + 1)))), (2, .int (nI n)), (0, .ref (ad1 4)), (1, .ref (ad1 0))]) ?_ (31 - 0) (0) _ _ _ ⟨rfl, (by omega), hE, lv_sub hl [0, 2, 3, 4, 5, 6, 7, 8] rfl⟩
              intro n9 q H locs ls hI ih30
              obtain ⟨hn31, hle_q, hE, hl⟩ := hI
              have hE : mE G (mA ad (Sy cy ad n k v (Si cy ad n k u x)) s.heap.size) s.heap ad1 (Sy cy ad1 n k v (Si cy ad1 n k u (mU x (60) (mI cy 6 (jT (v (300 + c) 1) (v (100 + c) 2) (nI (mFill (v (200 + c)) 16)) (mAdd (v (200 + c)) 16) (nI (mSof v (nI c) k)) (nI (mSkp v (nI c) (v (300 + c) 1) k))))))) H locs := hE
              have hl : lv_has ls 13 [(9, .int (nI (q + 1))), (6, .int (nI c)), (5, .int (mTo1 (v (300 + c)) (mTot (fun i => v (300 + i)) c) q)), (4, .int (mChs v (c + 1))), (3, .int (nI (mDif v (c + 1)))), (2, .int (nI n)), (0, .ref (ad1 4)), (1, .ref (ad1 0))] := hl
              refine lv_iload hx hb dX3_isSame_338 (lv_at hl 0 rfl) ?_
              refine lv_bipush (v := nI 32) hx hb dX3_isSame_340 (by decide) ?_
              refine mv_ge (tgt := 368) hx hb (by omega) (by omega) dX3_isSame_342 (by decide) (fun c32 => ?_) (fun c32 => ?_)
              · skip
                rw [show q = 31 by omega] at hl
                have hl : lv_has ls 13 [(9, .int (nI (31 + 1))), (6, .int (nI c)), (5, .int (mTot (fun i => v (300 + i)) (c + 1))), (4, .int (mChs v (c + 1))), (3, .int (nI (mDif v (c + 1)))), (2, .int (nI n)), (0, .ref (ad1 4)), (1, .ref (ad1 0))] := hl
                have hE : mE G (mA ad (Sy cy ad n k v (Si cy ad n k u x)) s.heap.size) s.heap ad1 (Sy cy ad1 n k v (Si cy ad1 n k u x)) H locs := mE_drop hE (fun j e hj => S_imp (fun _ _ h9 => Q_drop h60 x60 h9) hj)
                have w2 : Sy cy ad n k v (Si cy ad n k u x) = Sy cy ad1 n k v (Si cy ad1 n k u x) := by rw [Q_ad (ad' := ad1) (fun j hj => hj1 j (fun h => h60 (h ▸ hj))), S_adc (ad' := ad1) (fun j hj => hj1 j (by omega))]
                rw [← w2] at hE
                have hE : mE G (mA ad (Sy cy ad n k v (Si cy ad n k u x)) s.heap.size) s.heap ad (Sy cy ad n k v (Si cy ad n k u x)) H locs := mE_adr hE (fun j hj => (hj1 j (fun h => hj (by rw [h]; exact (S_r (by decide) (by decide)).trans ((Q_r h60).trans x60)))).symm)
                have hl : lv_has ls 13 [(9, .int (nI (31 + 1))), (6, .int (nI c)), (5, .int (mTot (fun i => v (300 + i)) (c + 1))), (4, .int (mChs v (c + 1))), (3, .int (nI (mDif v (c + 1)))), (2, .int (nI n)), (0, .ref (ad1 4)), (1, .ref (ad1 0))] := lv_sub hl [0, 1, 2, 3, 4, 5, 6, 7] rfl
                rw [hj1 0 (by decide), hj1 4 (by decide)] at hl
                refine lv_iinc (v := nI (c + 1)) (lv' := [(6, .int (nI (c + 1))), (9, .int (nI (31 + 1))), (5, .int (mTot (fun i => v (300 + i)) (c + 1))), (4, .int (mChs v (c + 1))), (3, .int (nI (mDif v (c + 1)))), (2, .int (nI n)), (0, .ref (ad 4)), (1, .ref (ad 0))]) hx hb dX3_isSame_368 hl (k := 1) rfl (nI_add _ _) (by decide) rfl (fun ls hl => ?_)
                refine lv_goto (tgt := 17) hx hb dX3_isSame_371 (by decide) ?_
                refine W.widen (k := 0 + 1 * (n - (n - (c + 1)))) (n := 0 + 6 * (n - (n - (c + 1)))) (by omega) (by omega) ?_
                exact ih1 (n - (c + 1)) (c + 1) _ _ _ (by rw [hn2]; omega) ⟨rfl, (by omega), hE, lv_sub hl [0, 2, 3, 4, 5, 6, 7] rfl⟩
              · skip
                refine lv_iload hx hb dX3_isSame_345 (lv_at hl 2 rfl) ?_
                refine lv_aload_n hx hb dX3_isSame_347 rfl (lv_at hl 6 rfl) ?_
                refine va_get (D := G) (ci := 3) (v := .ref (ad1 5)) (C := RX3) (T := TX3) (N := 3) hx hb hts hiX3 hown hN.1 (mE_P1 hE ((S_r (by omega) (by omega)).trans (Q_4))) 0 rfl rfl 0 (by decide) (hts (.fieldLink RX3 9 "SealedCupboardsLaw$Sim" "things" "[[I") (by decide +kernel)) (fun _ h9 => h9) rfl dX3_isSame_348 ?_
                refine lv_iload hx hb dX3_isSame_351 (lv_at hl 1 rfl) ?_
                refine mx_ralda hx hb hN hE ((S_r (by omega) (by omega)).trans (Q_5)) (j := c) rfl (by omega) (by omega) (Q_5at h_c) dX3_isSame_353 ?_
                refine lv_iload hx hb dX3_isSame_354 (lv_at hl 0 rfl) ?_
                refine va_calli (va_runS (As := [.ref (ad1 (20 + c)), .int (nI (q + 1))]) (rest := [.int (mTo1 (v (300 + c)) (mTot (fun i => v (300 + i)) c) q)]) ⟨hx, hb, hml, hown, hts⟩ (c_X3_sum l G cy ad1 (Sy cy ad1 n k v (Si cy ad1 n k u (mU x (60) (mI cy 6 (jT (v (300 + c) 1) (v (100 + c) 2) (nI (mFill (v (200 + c)) 16)) (mAdd (v (200 + c)) 16) (nI (mSof v (nI c) k)) (nI (mSkp v (nI c) (v (300 + c) 1) k))))))) _ (20 + c) (q + 1) (u (20 + c)) ((S_r (by omega) (by omega)).trans ((Q_te h_c rfl))) (by omega) (by omega)) (va_cwS 2 hts gX3_isSame_X3_sum rfl rfl rfl (by decide +kernel) ⟨Nat.le_of_ble_eq_true rfl, Nat.le_of_ble_eq_true rfl⟩) (mP_S hN hE) rfl rfl hl.1 rfl (lv_room (Nat.le_of_ble_eq_true rfl)) dX3_isSame_356 ⟨(by show _ ≤ 26; omega), (by show _ ≤ 116; omega)⟩) hE.2.2.2 (fun q _ h => mE_A hE q h) (mE_A hE) (fun r uq tq H locs ht hvm hw hB hz1 hk1 hS => ?_)
                obtain ⟨rfl, rfl⟩ := hw
                have hE : mE G (mA ad (Sy cy ad n k v (Si cy ad n k u x)) s.heap.size) s.heap ad1 (Sy cy ad1 n k v (Si cy ad1 n k u (mU x (60) (mI cy 6 (jT (v (300 + c) 1) (v (100 + c) 2) (nI (mFill (v (200 + c)) 16)) (mAdd (v (200 + c)) 16) (nI (mSof v (nI c) k)) (nI (mSkp v (nI c) (v (300 + c) 1) k))))))) H locs := mE_call hE hB ht hS
                rw [← jV_S hJ h_c (q + 1) (by omega) (by omega)]
                refine mv_iadd (z := (mTo1 (v (300 + c)) (mTot (fun i => v (300 + i)) c) q) + (v (300 + c) (q + 1))) hx hb rfl dX3_isSame_359 ?_
                refine lv_istore (lv' := [(5, .int ((mTo1 (v (300 + c)) (mTot (fun i => v (300 + i)) c) q) + (v (300 + c) (q + 1)))), (9, .int (nI (q + 1))), (6, .int (nI c)), (4, .int (mChs v (c + 1))), (3, .int (nI (mDif v (c + 1)))), (2, .int (nI n)), (0, .ref (ad1 4)), (1, .ref (ad1 0))]) hx hb dX3_isSame_360 hl (by decide) rfl (fun ls hl => ?_)
                have hl : lv_has ls 13 [(5, .int (mTo1 (v (300 + c)) (mTot (fun i => v (300 + i)) c) (q + 1))), (9, .int (nI (q + 1))), (6, .int (nI c)), (4, .int (mChs v (c + 1))), (3, .int (nI (mDif v (c + 1)))), (2, .int (nI n)), (0, .ref (ad1 4)), (1, .ref (ad1 0))] := hl
                refine lv_iinc (v := nI ((q + 1) + 1)) (lv' := [(9, .int (nI ((q + 1) + 1))), (5, .int (mTo1 (v (300 + c)) (mTot (fun i => v (300 + i)) c) (q + 1))), (6, .int (nI c)), (4, .int (mChs v (c + 1))), (3, .int (nI (mDif v (c + 1)))), (2, .int (nI n)), (0, .ref (ad1 4)), (1, .ref (ad1 0))]) hx hb dX3_isSame_362 hl (k := 1) rfl (nI_add _ _) (by decide) rfl (fun ls hl => ?_)
                refine lv_goto (tgt := 338) hx hb dX3_isSame_365 (by decide) ?_
                exact ih30 (31 - (q + 1)) (q + 1) _ _ _ (by rw [hn31]; omega) ⟨rfl, (by omega), hE, lv_sub hl [0, 2, 1, 3, 4, 5, 6, 7] rfl⟩
            · skip
              refine lv_aload_n hx hb dX3_isSame_311 rfl (lv_at hl 8 rfl) ?_
              refine lv_iload hx hb dX3_isSame_312 (lv_at hl 2 rfl) ?_
              refine lv_iload hx hb dX3_isSame_314 (lv_at hl 0 rfl) ?_
              refine va_calli (va_runV (As := [.int (nI c), .int (nI w9)]) (rest := []) ⟨hx, hb, hml, hown, hts⟩ (c_X2_told l G cy ad1 n k v (Si cy ad1 n k u (mU x (60) (mI cy 6 (jT (v (300 + c) 1) (v (100 + c) 2) (nI (mFill (v (200 + c)) 16)) (mAdd (v (200 + c)) 16) (nI (mSof v (nI c) k)) (nI (mSkp v (nI c) (v (300 + c) 1) k)))))) hn hk _ c h_c w9 (by omega)) (cwV 2 hts gX3_isSame_X2_told rfl rfl rfl (by decide +kernel) ⟨Nat.le_of_ble_eq_true rfl, Nat.le_of_ble_eq_true rfl⟩) (mP_V (r := (RX2, TX2, 5)) hN hE S_0 rfl) rfl rfl hl.1 rfl (lv_room (Nat.le_of_ble_eq_true rfl)) dX3_isSame_316 ⟨(by show _ ≤ 26; omega), (by show _ ≤ 116; omega)⟩) hE.2.2.2 (fun q _ h => mE_A hE q h) (mE_A hE) (fun r uq tq H locs ht hvm hw hB hz1 hk1 hS => ?_)
              obtain ⟨rfl, rfl⟩ := hw
              have hE : mE G (mA ad (Sy cy ad n k v (Si cy ad n k u x)) s.heap.size) s.heap ad1 (Sy cy ad1 n k v (Si cy ad1 n k u (mU x (60) (mI cy 6 (jT (v (300 + c) 1) (v (100 + c) 2) (nI (mFill (v (200 + c)) 16)) (mAdd (v (200 + c)) 16) (nI (mSof v (nI c) k)) (nI (mSkp v (nI c) (v (300 + c) 1) k))))))) H locs := mE_call hE hB ht hS
              refine lv_aload hx hb dX3_isSame_319 (lv_at hl 1 rfl) ?_
              refine lv_iload hx hb dX3_isSame_321 (lv_at hl 0 rfl) ?_
              refine mx_iald hx hb hN hE ((S_r (by omega) (by omega)).trans ((Q_r (by unfold jIs; omega)).trans (mU_s _ _ _))) (j := w9) rfl (by omega) (by decide) dX3_isSame_323 ?_
              rw [jT_told (show w9 < 6 by omega)]
              refine lv_icmp_eq (tgt := 329) hx hb dX3_isSame_324 (by decide) (fun c33 => ?_) (fun c33 => ?_)
              · skip
                refine lv_iinc (v := nI (w9 + 1)) (lv' := [(9, .int (nI (w9 + 1))), (7, .ref (ad1 60)), (6, .int (nI c)), (5, .int (mTot (fun i => v (300 + i)) c)), (4, .int (mChs v (c + 1))), (3, .int (nI (mDif v (c + 1)))), (2, .int (nI n)), (0, .ref (ad1 4)), (1, .ref (ad1 0))]) hx hb dX3_isSame_329 hl (k := 0) rfl (nI_add _ _) (by decide) rfl (fun ls hl => ?_)
                refine lv_goto (tgt := 304) hx hb dX3_isSame_332 (by decide) ?_
                exact ih27 (6 - (w9 + 1)) (w9 + 1) _ _ _ (by rw [hn28]; omega) ⟨rfl, (by omega), hE, lv_sub hl [0, 1, 2, 3, 4, 5, 6, 7, 8] rfl⟩
              · skip
                exact absurd rfl c33
          · skip
            have h_j9 : j9 < k := by omega
            refine lv_aload hx hb dX3_isSame_235 (lv_at hl 2 rfl) ?_
            refine lv_iload hx hb dX3_isSame_237 (lv_at hl 0 rfl) ?_
            refine mx_ralda hx hb hN hE ((S_r (by omega) (by omega)).trans (Q_6)) (j := j9) rfl (by omega) (by omega) (Q_6at h_j9) dX3_isSame_239 ?_
            refine lv_astore (lv' := [(12, .ref (ad1 (40 + j9))), (11, .int (nI j9)), (10, .int (nI k)), (9, .ref (ad1 6)), (7, .ref (ad1 60)), (6, .int (nI c)), (5, .int (mTot (fun i => v (300 + i)) c)), (4, .int (mChs v (c + 1))), (3, .int (nI (mDif v (c + 1)))), (2, .int (nI n)), (0, .ref (ad1 4)), (1, .ref (ad1 0))]) hx hb dX3_isSame_240 hl (by decide) rfl (fun ls hl => ?_)
            refine lv_aload hx hb dX3_isSame_242 (lv_at hl 4 rfl) ?_
            refine lv_iconst (v := nI 4) hx hb dX3_isSame_244 (by decide) ?_
            refine lv_dup2_11 hx hb dX3_isSame_245 rfl rfl ?_
            refine mx_iald hx hb hN hE ((S_r (by omega) (by omega)).trans ((Q_r (by unfold jIs; omega)).trans (mU_s _ _ _))) (j := 4) rfl (by omega) (by decide) dX3_isSame_246 ?_
            refine lv_aload hx hb dX3_isSame_247 (lv_at hl 0 rfl) ?_
            refine lv_iconst (v := nI 0) hx hb dX3_isSame_249 (by decide) ?_
            refine mx_iald hx hb hN hE ((S_r (by omega) (by omega)).trans ((Q_se hN6 h_j9 rfl))) (j := 0) rfl (by omega) (by decide) dX3_isSame_250 ?_
            rw [jV_s hJ h_j9 (by decide)]
            refine lv_iload hx hb dX3_isSame_251 (lv_at hl 5 rfl) ?_
            refine lv_icmp_ne (tgt := 260) hx hb dX3_isSame_253 (by decide) (fun c34 => ?_) (fun c34 => ?_)
            · skip
              refine lv_iconst (v := nI 0) hx hb dX3_isSame_260 (by decide) ?_
              refine mv_iadd (z := nI ((mSof v (nI c) j9) + 0)) hx hb (nI_add _ _) dX3_isSame_261 ?_
              refine mx_iast hx hb hN hE ((S_r (by omega) (by omega)).trans ((Q_r (by unfold jIs; omega)).trans (mU_s _ _ _))) (j := 4) rfl (by omega) (by decide) dX3_isSame_262 (fun H locs hE => ?_)
              have hE : mE G (mA ad (Sy cy ad n k v (Si cy ad n k u x)) s.heap.size) s.heap ad1 (Sy cy ad1 n k v (Si cy ad1 n k u (mU x (60) (mI cy 6 (upd ((jT (v (300 + c) 1) (v (100 + c) 2) (nI (mFill (v (200 + c)) 16)) (mAdd (v (200 + c)) 16) (nI (mSof v (nI c) j9)) (nI (mSkp v (nI c) (v (300 + c) 1) j9)))) 4 (nI ((mSof v (nI c) j9) + 0))))))) H locs := by rw [S_ux (by omega) (by omega), Q_ux (by unfold jIs; omega), jU_uu] at hE; exact hE
              have e9 : mSof v (nI c) j9 + 0 = mSof v (nI c) (j9 + 1) := by show _ = mSof v (nI c) j9 + (if v (400 + j9) 0 = nI c then 1 else 0); rw [if_neg c34]
              rw [jT_4, e9] at hE
              refine lv_aload hx hb dX3_isSame_263 (lv_at hl 4 rfl) ?_
              refine lv_iconst (v := nI 5) hx hb dX3_isSame_265 (by decide) ?_
              refine lv_dup2_11 hx hb dX3_isSame_266 rfl rfl ?_
              refine mx_iald hx hb hN hE ((S_r (by omega) (by omega)).trans ((Q_r (by unfold jIs; omega)).trans (mU_s _ _ _))) (j := 5) rfl (by omega) (by decide) dX3_isSame_267 ?_
              refine lv_aload hx hb dX3_isSame_268 (lv_at hl 0 rfl) ?_
              refine lv_iconst (v := nI 0) hx hb dX3_isSame_270 (by decide) ?_
              refine mx_iald hx hb hN hE ((S_r (by omega) (by omega)).trans ((Q_se hN6 h_j9 rfl))) (j := 0) rfl (by omega) (by decide) dX3_isSame_271 ?_
              rw [jV_s hJ h_j9 (by decide)]
              refine lv_iload hx hb dX3_isSame_272 (lv_at hl 5 rfl) ?_
              refine lv_icmp_ne (tgt := 292) hx hb dX3_isSame_274 (by decide) (fun c35 => ?_) (fun c35 => ?_)
              · skip
                refine lv_iconst (v := nI 0) hx hb dX3_isSame_292 (by decide) ?_
                refine mv_iadd (z := nI ((mSkp v (nI c) (v (300 + c) 1) j9) + 0)) hx hb (nI_add _ _) dX3_isSame_293 ?_
                refine mx_iast hx hb hN hE ((S_r (by omega) (by omega)).trans ((Q_r (by unfold jIs; omega)).trans (mU_s _ _ _))) (j := 5) rfl (by omega) (by decide) dX3_isSame_294 (fun H locs hE => ?_)
                have hE : mE G (mA ad (Sy cy ad n k v (Si cy ad n k u x)) s.heap.size) s.heap ad1 (Sy cy ad1 n k v (Si cy ad1 n k u (mU x (60) (mI cy 6 (upd ((jT (v (300 + c) 1) (v (100 + c) 2) (nI (mFill (v (200 + c)) 16)) (mAdd (v (200 + c)) 16) (nI (mSof v (nI c) (j9 + 1))) (nI (mSkp v (nI c) (v (300 + c) 1) j9)))) 5 (nI ((mSkp v (nI c) (v (300 + c) 1) j9) + 0))))))) H locs := by rw [S_ux (by omega) (by omega), Q_ux (by unfold jIs; omega), jU_uu] at hE; exact hE
                have e9 : mSkp v (nI c) (v (300 + c) 1) j9 + 0 = mSkp v (nI c) (v (300 + c) 1) (j9 + 1) := by show _ = mSkp v (nI c) (v (300 + c) 1) j9 + (if v (400 + j9) 0 = nI c ∧ v (400 + j9) 1 = v (300 + c) 1 then 1 else 0); rw [if_neg (fun h9 => c35 h9.1)]
                rw [jT_5, e9] at hE
                refine lv_iinc (v := nI (j9 + 1)) (lv' := [(11, .int (nI (j9 + 1))), (12, .ref (ad1 (40 + j9))), (10, .int (nI k)), (9, .ref (ad1 6)), (7, .ref (ad1 60)), (6, .int (nI c)), (5, .int (mTot (fun i => v (300 + i)) c)), (4, .int (mChs v (c + 1))), (3, .int (nI (mDif v (c + 1)))), (2, .int (nI n)), (0, .ref (ad1 4)), (1, .ref (ad1 0))]) hx hb dX3_isSame_295 hl (k := 1) rfl (nI_add _ _) (by decide) rfl (fun ls hl => ?_)
                refine lv_goto (tgt := 228) hx hb dX3_isSame_298 (by decide) ?_
                exact ih24 (k - (j9 + 1)) (j9 + 1) _ _ _ (by rw [hn25]; omega) ⟨rfl, (by omega), hE, lv_sub hl [0, 2, 3, 4, 5, 6, 7, 8, 9, 10, 11] rfl⟩
              · skip
                exact absurd c35 c34
            · skip
              refine lv_iconst (v := nI 1) hx hb dX3_isSame_256 (by decide) ?_
              refine lv_goto (tgt := 261) hx hb dX3_isSame_257 (by decide) ?_
              refine mv_iadd (z := nI ((mSof v (nI c) j9) + 1)) hx hb (nI_add _ _) dX3_isSame_261 ?_
              refine mx_iast hx hb hN hE ((S_r (by omega) (by omega)).trans ((Q_r (by unfold jIs; omega)).trans (mU_s _ _ _))) (j := 4) rfl (by omega) (by decide) dX3_isSame_262 (fun H locs hE => ?_)
              have hE : mE G (mA ad (Sy cy ad n k v (Si cy ad n k u x)) s.heap.size) s.heap ad1 (Sy cy ad1 n k v (Si cy ad1 n k u (mU x (60) (mI cy 6 (upd ((jT (v (300 + c) 1) (v (100 + c) 2) (nI (mFill (v (200 + c)) 16)) (mAdd (v (200 + c)) 16) (nI (mSof v (nI c) j9)) (nI (mSkp v (nI c) (v (300 + c) 1) j9)))) 4 (nI ((mSof v (nI c) j9) + 1))))))) H locs := by rw [S_ux (by omega) (by omega), Q_ux (by unfold jIs; omega), jU_uu] at hE; exact hE
              have e9 : mSof v (nI c) j9 + 1 = mSof v (nI c) (j9 + 1) := by show _ = mSof v (nI c) j9 + (if v (400 + j9) 0 = nI c then 1 else 0); rw [if_pos c34]
              rw [jT_4, e9] at hE
              refine lv_aload hx hb dX3_isSame_263 (lv_at hl 4 rfl) ?_
              refine lv_iconst (v := nI 5) hx hb dX3_isSame_265 (by decide) ?_
              refine lv_dup2_11 hx hb dX3_isSame_266 rfl rfl ?_
              refine mx_iald hx hb hN hE ((S_r (by omega) (by omega)).trans ((Q_r (by unfold jIs; omega)).trans (mU_s _ _ _))) (j := 5) rfl (by omega) (by decide) dX3_isSame_267 ?_
              refine lv_aload hx hb dX3_isSame_268 (lv_at hl 0 rfl) ?_
              refine lv_iconst (v := nI 0) hx hb dX3_isSame_270 (by decide) ?_
              refine mx_iald hx hb hN hE ((S_r (by omega) (by omega)).trans ((Q_se hN6 h_j9 rfl))) (j := 0) rfl (by omega) (by decide) dX3_isSame_271 ?_
              rw [jV_s hJ h_j9 (by decide)]
              refine lv_iload hx hb dX3_isSame_272 (lv_at hl 5 rfl) ?_
              refine lv_icmp_ne (tgt := 292) hx hb dX3_isSame_274 (by decide) (fun c36 => ?_) (fun c36 => ?_)
              · skip
                exact absurd c34 c36
              · skip
                refine lv_aload hx hb dX3_isSame_277 (lv_at hl 0 rfl) ?_
                refine lv_iconst (v := nI 1) hx hb dX3_isSame_279 (by decide) ?_
                refine mx_iald hx hb hN hE ((S_r (by omega) (by omega)).trans ((Q_se hN6 h_j9 rfl))) (j := 1) rfl (by omega) (by decide) dX3_isSame_280 ?_
                rw [jV_s hJ h_j9 (by decide)]
                refine lv_aload hx hb dX3_isSame_281 (lv_at hl 4 rfl) ?_
                refine lv_iconst (v := nI 0) hx hb dX3_isSame_283 (by decide) ?_
                refine mx_iald hx hb hN hE ((S_r (by omega) (by omega)).trans ((Q_r (by unfold jIs; omega)).trans (mU_s _ _ _))) (j := 0) rfl (by omega) (by decide) dX3_isSame_284 ?_
                refine lv_icmp_ne (tgt := 292) hx hb dX3_isSame_285 (by decide) (fun c37 => ?_) (fun c37 => ?_)
                · skip
                  refine lv_iconst (v := nI 0) hx hb dX3_isSame_292 (by decide) ?_
                  refine mv_iadd (z := nI ((mSkp v (nI c) (v (300 + c) 1) j9) + 0)) hx hb (nI_add _ _) dX3_isSame_293 ?_
                  refine mx_iast hx hb hN hE ((S_r (by omega) (by omega)).trans ((Q_r (by unfold jIs; omega)).trans (mU_s _ _ _))) (j := 5) rfl (by omega) (by decide) dX3_isSame_294 (fun H locs hE => ?_)
                  have hE : mE G (mA ad (Sy cy ad n k v (Si cy ad n k u x)) s.heap.size) s.heap ad1 (Sy cy ad1 n k v (Si cy ad1 n k u (mU x (60) (mI cy 6 (upd ((jT (v (300 + c) 1) (v (100 + c) 2) (nI (mFill (v (200 + c)) 16)) (mAdd (v (200 + c)) 16) (nI (mSof v (nI c) (j9 + 1))) (nI (mSkp v (nI c) (v (300 + c) 1) j9)))) 5 (nI ((mSkp v (nI c) (v (300 + c) 1) j9) + 0))))))) H locs := by rw [S_ux (by omega) (by omega), Q_ux (by unfold jIs; omega), jU_uu] at hE; exact hE
                  have e9 : mSkp v (nI c) (v (300 + c) 1) j9 + 0 = mSkp v (nI c) (v (300 + c) 1) (j9 + 1) := by show _ = mSkp v (nI c) (v (300 + c) 1) j9 + (if v (400 + j9) 0 = nI c ∧ v (400 + j9) 1 = v (300 + c) 1 then 1 else 0); rw [if_neg (fun h9 => c37 h9.2)]
                  rw [jT_5, e9] at hE
                  refine lv_iinc (v := nI (j9 + 1)) (lv' := [(11, .int (nI (j9 + 1))), (12, .ref (ad1 (40 + j9))), (10, .int (nI k)), (9, .ref (ad1 6)), (7, .ref (ad1 60)), (6, .int (nI c)), (5, .int (mTot (fun i => v (300 + i)) c)), (4, .int (mChs v (c + 1))), (3, .int (nI (mDif v (c + 1)))), (2, .int (nI n)), (0, .ref (ad1 4)), (1, .ref (ad1 0))]) hx hb dX3_isSame_295 hl (k := 1) rfl (nI_add _ _) (by decide) rfl (fun ls hl => ?_)
                  refine lv_goto (tgt := 228) hx hb dX3_isSame_298 (by decide) ?_
                  exact ih24 (k - (j9 + 1)) (j9 + 1) _ _ _ (by rw [hn25]; omega) ⟨rfl, (by omega), hE, lv_sub hl [0, 2, 3, 4, 5, 6, 7, 8, 9, 10, 11] rfl⟩
                · skip
                  refine lv_iconst (v := nI 1) hx hb dX3_isSame_288 (by decide) ?_
                  refine lv_goto (tgt := 293) hx hb dX3_isSame_289 (by decide) ?_
                  refine mv_iadd (z := nI ((mSkp v (nI c) (v (300 + c) 1) j9) + 1)) hx hb (nI_add _ _) dX3_isSame_293 ?_
                  refine mx_iast hx hb hN hE ((S_r (by omega) (by omega)).trans ((Q_r (by unfold jIs; omega)).trans (mU_s _ _ _))) (j := 5) rfl (by omega) (by decide) dX3_isSame_294 (fun H locs hE => ?_)
                  have hE : mE G (mA ad (Sy cy ad n k v (Si cy ad n k u x)) s.heap.size) s.heap ad1 (Sy cy ad1 n k v (Si cy ad1 n k u (mU x (60) (mI cy 6 (upd ((jT (v (300 + c) 1) (v (100 + c) 2) (nI (mFill (v (200 + c)) 16)) (mAdd (v (200 + c)) 16) (nI (mSof v (nI c) (j9 + 1))) (nI (mSkp v (nI c) (v (300 + c) 1) j9)))) 5 (nI ((mSkp v (nI c) (v (300 + c) 1) j9) + 1))))))) H locs := by rw [S_ux (by omega) (by omega), Q_ux (by unfold jIs; omega), jU_uu] at hE; exact hE
                  have e9 : mSkp v (nI c) (v (300 + c) 1) j9 + 1 = mSkp v (nI c) (v (300 + c) 1) (j9 + 1) := by show _ = mSkp v (nI c) (v (300 + c) 1) j9 + (if v (400 + j9) 0 = nI c ∧ v (400 + j9) 1 = v (300 + c) 1 then 1 else 0); rw [if_pos ⟨c36, c37⟩]
                  rw [jT_5, e9] at hE
                  refine lv_iinc (v := nI (j9 + 1)) (lv' := [(11, .int (nI (j9 + 1))), (12, .ref (ad1 (40 + j9))), (10, .int (nI k)), (9, .ref (ad1 6)), (7, .ref (ad1 60)), (6, .int (nI c)), (5, .int (mTot (fun i => v (300 + i)) c)), (4, .int (mChs v (c + 1))), (3, .int (nI (mDif v (c + 1)))), (2, .int (nI n)), (0, .ref (ad1 4)), (1, .ref (ad1 0))]) hx hb dX3_isSame_295 hl (k := 1) rfl (nI_add _ _) (by decide) rfl (fun ls hl => ?_)
                  refine lv_goto (tgt := 228) hx hb dX3_isSame_298 (by decide) ?_
                  exact ih24 (k - (j9 + 1)) (j9 + 1) _ _ _ (by rw [hn25]; omega) ⟨rfl, (by omega), hE, lv_sub hl [0, 2, 3, 4, 5, 6, 7, 8, 9, 10, 11] rfl⟩
        · skip
          refine lv_aload hx hb dX3_isSame_143 (lv_at hl 1 rfl) ?_
          refine lv_iconst (v := nI 2) hx hb dX3_isSame_145 (by decide) ?_
          refine lv_dup2_11 hx hb dX3_isSame_146 rfl rfl ?_
          refine mx_iald hx hb hN hE ((S_r (by omega) (by omega)).trans ((Q_r (by unfold jIs; omega)).trans (mU_s _ _ _))) (j := 2) rfl (by omega) (by decide) dX3_isSame_147 ?_
          refine lv_aload_n hx hb dX3_isSame_148 rfl (lv_at hl 7 rfl) ?_
          refine va_get (D := G) (ci := 3) (v := .ref (ad1 5)) (C := RX3) (T := TX3) (N := 3) hx hb hts hiX3 hown hN.1 (mE_P1 hE ((S_r (by omega) (by omega)).trans (Q_4))) 0 rfl rfl 0 (by decide) (hts (.fieldLink RX3 9 "SealedCupboardsLaw$Sim" "things" "[[I") (by decide +kernel)) (fun _ h9 => h9) rfl dX3_isSame_149 ?_
          refine lv_iload hx hb dX3_isSame_152 (lv_at hl 2 rfl) ?_
          refine mx_ralda hx hb hN hE ((S_r (by omega) (by omega)).trans (Q_5)) (j := c) rfl (by omega) (by omega) (Q_5at h_c) dX3_isSame_154 ?_
          refine lv_iload hx hb dX3_isSame_155 (lv_at hl 0 rfl) ?_
          refine mx_iald hx hb hN hE ((S_r (by omega) (by omega)).trans ((Q_te h_c rfl))) (j := d) rfl (by omega) (by decide) dX3_isSame_157 ?_
          obtain ⟨t9, ht9, et9⟩ := jV_t hJ h_c (show d < 16 by omega)
          have eu9 := (jV_u hJ h_c (show d < 16 by omega)).trans et9
          rw [eu9]
          refine lv_if_le (tgt := 165) hx hb dX3_isSame_158 (by decide) (fun c38 => ?_) (fun c38 => ?_)
          · skip
            have c38 := (mz_le (by omega)).mp c38
            refine lv_iconst (v := nI 0) hx hb dX3_isSame_165 (by decide) ?_
            refine mv_iadd (z := nI ((mFill (v (200 + c)) d) + 0)) hx hb (nI_add _ _) dX3_isSame_166 ?_
            refine mx_iast hx hb hN hE ((S_r (by omega) (by omega)).trans ((Q_r (by unfold jIs; omega)).trans (mU_s _ _ _))) (j := 2) rfl (by omega) (by decide) dX3_isSame_167 (fun H locs hE => ?_)
            have hE : mE G (mA ad (Sy cy ad n k v (Si cy ad n k u x)) s.heap.size) s.heap ad1 (Sy cy ad1 n k v (Si cy ad1 n k u (mU x (60) (mI cy 6 (upd ((jT (v (300 + c) 1) (v (100 + c) 2) (nI (mFill (v (200 + c)) d)) (mAdd (v (200 + c)) d) (nI 0) (nI 0))) 2 (nI ((mFill (v (200 + c)) d) + 0))))))) H locs := by rw [S_ux (by omega) (by omega), Q_ux (by unfold jIs; omega), jU_uu] at hE; exact hE
            have e9 : mFill (v (200 + c)) d + 0 = mFill (v (200 + c)) (d + 1) := by show _ = mFill (v (200 + c)) d + (if (v (200 + c)) d = 0 then 0 else 1); rw [et9, if_pos ((mz_eq (by omega)).mpr c38)]
            rw [jT_2, e9] at hE
            refine lv_aload hx hb dX3_isSame_168 (lv_at hl 1 rfl) ?_
            refine lv_iconst (v := nI 3) hx hb dX3_isSame_170 (by decide) ?_
            refine lv_dup2_11 hx hb dX3_isSame_171 rfl rfl ?_
            refine mx_iald hx hb hN hE ((S_r (by omega) (by omega)).trans ((Q_r (by unfold jIs; omega)).trans (mU_s _ _ _))) (j := 3) rfl (by omega) (by decide) dX3_isSame_172 ?_
            refine lv_aload_n hx hb dX3_isSame_173 rfl (lv_at hl 7 rfl) ?_
            refine va_get (D := G) (ci := 3) (v := .ref (ad1 5)) (C := RX3) (T := TX3) (N := 3) hx hb hts hiX3 hown hN.1 (mE_P1 hE ((S_r (by omega) (by omega)).trans (Q_4))) 0 rfl rfl 0 (by decide) (hts (.fieldLink RX3 9 "SealedCupboardsLaw$Sim" "things" "[[I") (by decide +kernel)) (fun _ h9 => h9) rfl dX3_isSame_174 ?_
            refine lv_iload hx hb dX3_isSame_177 (lv_at hl 2 rfl) ?_
            refine mx_ralda hx hb hN hE ((S_r (by omega) (by omega)).trans (Q_5)) (j := c) rfl (by omega) (by omega) (Q_5at h_c) dX3_isSame_179 ?_
            refine lv_iload hx hb dX3_isSame_180 (lv_at hl 0 rfl) ?_
            refine mx_iald hx hb hN hE ((S_r (by omega) (by omega)).trans ((Q_te h_c rfl))) (j := d) rfl (by omega) (by decide) dX3_isSame_182 ?_
            rw [jV_u hJ h_c (show d < 16 by omega)]
            refine mv_iadd (z := (mAdd (v (200 + c)) d) + (v (200 + c) d)) hx hb rfl dX3_isSame_183 ?_
            refine mx_iast hx hb hN hE ((S_r (by omega) (by omega)).trans ((Q_r (by unfold jIs; omega)).trans (mU_s _ _ _))) (j := 3) rfl (by omega) (by decide) dX3_isSame_184 (fun H locs hE => ?_)
            have hE : mE G (mA ad (Sy cy ad n k v (Si cy ad n k u x)) s.heap.size) s.heap ad1 (Sy cy ad1 n k v (Si cy ad1 n k u (mU x (60) (mI cy 6 (upd ((jT (v (300 + c) 1) (v (100 + c) 2) (nI (mFill (v (200 + c)) (d + 1))) (mAdd (v (200 + c)) d) (nI 0) (nI 0))) 3 ((mAdd (v (200 + c)) d) + (v (200 + c) d))))))) H locs := by rw [S_ux (by omega) (by omega), Q_ux (by unfold jIs; omega), jU_uu] at hE; exact hE
            rw [jT_3] at hE
            have hE : mE G (mA ad (Sy cy ad n k v (Si cy ad n k u x)) s.heap.size) s.heap ad1 (Sy cy ad1 n k v (Si cy ad1 n k u (mU x (60) (mI cy 6 (jT (v (300 + c) 1) (v (100 + c) 2) (nI (mFill (v (200 + c)) (d + 1))) (mAdd (v (200 + c)) (d + 1)) (nI 0) (nI 0)))))) H locs := hE
            refine lv_aload_n hx hb dX3_isSame_185 rfl (lv_at hl 8 rfl) ?_
            refine lv_iload hx hb dX3_isSame_186 (lv_at hl 2 rfl) ?_
            refine lv_iload hx hb dX3_isSame_188 (lv_at hl 0 rfl) ?_
            refine va_calli (va_runV (As := [.int (nI c), .int (nI d)]) (rest := []) ⟨hx, hb, hml, hown, hts⟩ (c_X2_thing l G cy ad1 n k v (Si cy ad1 n k u (mU x (60) (mI cy 6 (jT (v (300 + c) 1) (v (100 + c) 2) (nI (mFill (v (200 + c)) (d + 1))) (mAdd (v (200 + c)) (d + 1)) (nI 0) (nI 0))))) hn hk _ c h_c d (by omega)) (cwV 2 hts gX3_isSame_X2_thing rfl rfl rfl (by decide +kernel) ⟨Nat.le_of_ble_eq_true rfl, Nat.le_of_ble_eq_true rfl⟩) (mP_V (r := (RX2, TX2, 5)) hN hE S_0 rfl) rfl rfl hl.1 rfl (lv_room (Nat.le_of_ble_eq_true rfl)) dX3_isSame_190 ⟨(by show _ ≤ 26; omega), (by show _ ≤ 116; omega)⟩) hE.2.2.2 (fun q _ h => mE_A hE q h) (mE_A hE) (fun r uq tq H locs ht hvm hw hB hz1 hk1 hS => ?_)
            obtain ⟨rfl, rfl⟩ := hw
            have hE : mE G (mA ad (Sy cy ad n k v (Si cy ad n k u x)) s.heap.size) s.heap ad1 (Sy cy ad1 n k v (Si cy ad1 n k u (mU x (60) (mI cy 6 (jT (v (300 + c) 1) (v (100 + c) 2) (nI (mFill (v (200 + c)) (d + 1))) (mAdd (v (200 + c)) (d + 1)) (nI 0) (nI 0)))))) H locs := mE_call hE hB ht hS
            refine lv_aload_n hx hb dX3_isSame_193 rfl (lv_at hl 7 rfl) ?_
            refine va_get (D := G) (ci := 3) (v := .ref (ad1 5)) (C := RX3) (T := TX3) (N := 3) hx hb hts hiX3 hown hN.1 (mE_P1 hE ((S_r (by omega) (by omega)).trans (Q_4))) 0 rfl rfl 0 (by decide) (hts (.fieldLink RX3 9 "SealedCupboardsLaw$Sim" "things" "[[I") (by decide +kernel)) (fun _ h9 => h9) rfl dX3_isSame_194 ?_
            refine lv_iload hx hb dX3_isSame_197 (lv_at hl 2 rfl) ?_
            refine mx_ralda hx hb hN hE ((S_r (by omega) (by omega)).trans (Q_5)) (j := c) rfl (by omega) (by omega) (Q_5at h_c) dX3_isSame_199 ?_
            refine lv_iload hx hb dX3_isSame_200 (lv_at hl 0 rfl) ?_
            refine mx_iald hx hb hN hE ((S_r (by omega) (by omega)).trans ((Q_te h_c rfl))) (j := d) rfl (by omega) (by decide) dX3_isSame_202 ?_
            rw [jV_u hJ h_c (show d < 16 by omega)]
            refine lv_icmp_eq (tgt := 208) hx hb dX3_isSame_203 (by decide) (fun c39 => ?_) (fun c39 => ?_)
            · skip
              refine lv_iinc (v := nI (d + 1)) (lv' := [(9, .int (nI (d + 1))), (7, .ref (ad1 60)), (6, .int (nI c)), (5, .int (mTot (fun i => v (300 + i)) c)), (4, .int (mChs v (c + 1))), (3, .int (nI (mDif v (c + 1)))), (2, .int (nI n)), (0, .ref (ad1 4)), (1, .ref (ad1 0))]) hx hb dX3_isSame_208 hl (k := 0) rfl (nI_add _ _) (by decide) rfl (fun ls hl => ?_)
              refine lv_goto (tgt := 136) hx hb dX3_isSame_211 (by decide) ?_
              exact ih21 (16 - (d + 1)) (d + 1) _ _ _ (by rw [hn22]; omega) ⟨rfl, (by omega), hE, lv_sub hl [0, 1, 2, 3, 4, 5, 6, 7, 8] rfl⟩
            · skip
              exact absurd rfl c39
          · skip
            have c38 : ¬ t9 = 0 := fun h9 => c38 ((mz_le (by omega)).mpr h9)
            refine lv_iconst (v := nI 1) hx hb dX3_isSame_161 (by decide) ?_
            refine lv_goto (tgt := 166) hx hb dX3_isSame_162 (by decide) ?_
            refine mv_iadd (z := nI ((mFill (v (200 + c)) d) + 1)) hx hb (nI_add _ _) dX3_isSame_166 ?_
            refine mx_iast hx hb hN hE ((S_r (by omega) (by omega)).trans ((Q_r (by unfold jIs; omega)).trans (mU_s _ _ _))) (j := 2) rfl (by omega) (by decide) dX3_isSame_167 (fun H locs hE => ?_)
            have hE : mE G (mA ad (Sy cy ad n k v (Si cy ad n k u x)) s.heap.size) s.heap ad1 (Sy cy ad1 n k v (Si cy ad1 n k u (mU x (60) (mI cy 6 (upd ((jT (v (300 + c) 1) (v (100 + c) 2) (nI (mFill (v (200 + c)) d)) (mAdd (v (200 + c)) d) (nI 0) (nI 0))) 2 (nI ((mFill (v (200 + c)) d) + 1))))))) H locs := by rw [S_ux (by omega) (by omega), Q_ux (by unfold jIs; omega), jU_uu] at hE; exact hE
            have e9 : mFill (v (200 + c)) d + 1 = mFill (v (200 + c)) (d + 1) := by show _ = mFill (v (200 + c)) d + (if (v (200 + c)) d = 0 then 0 else 1); rw [et9, if_neg (fun h9 => c38 ((mz_eq (by omega)).mp h9))]
            rw [jT_2, e9] at hE
            refine lv_aload hx hb dX3_isSame_168 (lv_at hl 1 rfl) ?_
            refine lv_iconst (v := nI 3) hx hb dX3_isSame_170 (by decide) ?_
            refine lv_dup2_11 hx hb dX3_isSame_171 rfl rfl ?_
            refine mx_iald hx hb hN hE ((S_r (by omega) (by omega)).trans ((Q_r (by unfold jIs; omega)).trans (mU_s _ _ _))) (j := 3) rfl (by omega) (by decide) dX3_isSame_172 ?_
            refine lv_aload_n hx hb dX3_isSame_173 rfl (lv_at hl 7 rfl) ?_
            refine va_get (D := G) (ci := 3) (v := .ref (ad1 5)) (C := RX3) (T := TX3) (N := 3) hx hb hts hiX3 hown hN.1 (mE_P1 hE ((S_r (by omega) (by omega)).trans (Q_4))) 0 rfl rfl 0 (by decide) (hts (.fieldLink RX3 9 "SealedCupboardsLaw$Sim" "things" "[[I") (by decide +kernel)) (fun _ h9 => h9) rfl dX3_isSame_174 ?_
            refine lv_iload hx hb dX3_isSame_177 (lv_at hl 2 rfl) ?_
            refine mx_ralda hx hb hN hE ((S_r (by omega) (by omega)).trans (Q_5)) (j := c) rfl (by omega) (by omega) (Q_5at h_c) dX3_isSame_179 ?_
            refine lv_iload hx hb dX3_isSame_180 (lv_at hl 0 rfl) ?_
            refine mx_iald hx hb hN hE ((S_r (by omega) (by omega)).trans ((Q_te h_c rfl))) (j := d) rfl (by omega) (by decide) dX3_isSame_182 ?_
            rw [jV_u hJ h_c (show d < 16 by omega)]
            refine mv_iadd (z := (mAdd (v (200 + c)) d) + (v (200 + c) d)) hx hb rfl dX3_isSame_183 ?_
            refine mx_iast hx hb hN hE ((S_r (by omega) (by omega)).trans ((Q_r (by unfold jIs; omega)).trans (mU_s _ _ _))) (j := 3) rfl (by omega) (by decide) dX3_isSame_184 (fun H locs hE => ?_)
            have hE : mE G (mA ad (Sy cy ad n k v (Si cy ad n k u x)) s.heap.size) s.heap ad1 (Sy cy ad1 n k v (Si cy ad1 n k u (mU x (60) (mI cy 6 (upd ((jT (v (300 + c) 1) (v (100 + c) 2) (nI (mFill (v (200 + c)) (d + 1))) (mAdd (v (200 + c)) d) (nI 0) (nI 0))) 3 ((mAdd (v (200 + c)) d) + (v (200 + c) d))))))) H locs := by rw [S_ux (by omega) (by omega), Q_ux (by unfold jIs; omega), jU_uu] at hE; exact hE
            rw [jT_3] at hE
            have hE : mE G (mA ad (Sy cy ad n k v (Si cy ad n k u x)) s.heap.size) s.heap ad1 (Sy cy ad1 n k v (Si cy ad1 n k u (mU x (60) (mI cy 6 (jT (v (300 + c) 1) (v (100 + c) 2) (nI (mFill (v (200 + c)) (d + 1))) (mAdd (v (200 + c)) (d + 1)) (nI 0) (nI 0)))))) H locs := hE
            refine lv_aload_n hx hb dX3_isSame_185 rfl (lv_at hl 8 rfl) ?_
            refine lv_iload hx hb dX3_isSame_186 (lv_at hl 2 rfl) ?_
            refine lv_iload hx hb dX3_isSame_188 (lv_at hl 0 rfl) ?_
            refine va_calli (va_runV (As := [.int (nI c), .int (nI d)]) (rest := []) ⟨hx, hb, hml, hown, hts⟩ (c_X2_thing l G cy ad1 n k v (Si cy ad1 n k u (mU x (60) (mI cy 6 (jT (v (300 + c) 1) (v (100 + c) 2) (nI (mFill (v (200 + c)) (d + 1))) (mAdd (v (200 + c)) (d + 1)) (nI 0) (nI 0))))) hn hk _ c h_c d (by omega)) (cwV 2 hts gX3_isSame_X2_thing rfl rfl rfl (by decide +kernel) ⟨Nat.le_of_ble_eq_true rfl, Nat.le_of_ble_eq_true rfl⟩) (mP_V (r := (RX2, TX2, 5)) hN hE S_0 rfl) rfl rfl hl.1 rfl (lv_room (Nat.le_of_ble_eq_true rfl)) dX3_isSame_190 ⟨(by show _ ≤ 26; omega), (by show _ ≤ 116; omega)⟩) hE.2.2.2 (fun q _ h => mE_A hE q h) (mE_A hE) (fun r uq tq H locs ht hvm hw hB hz1 hk1 hS => ?_)
            obtain ⟨rfl, rfl⟩ := hw
            have hE : mE G (mA ad (Sy cy ad n k v (Si cy ad n k u x)) s.heap.size) s.heap ad1 (Sy cy ad1 n k v (Si cy ad1 n k u (mU x (60) (mI cy 6 (jT (v (300 + c) 1) (v (100 + c) 2) (nI (mFill (v (200 + c)) (d + 1))) (mAdd (v (200 + c)) (d + 1)) (nI 0) (nI 0)))))) H locs := mE_call hE hB ht hS
            refine lv_aload_n hx hb dX3_isSame_193 rfl (lv_at hl 7 rfl) ?_
            refine va_get (D := G) (ci := 3) (v := .ref (ad1 5)) (C := RX3) (T := TX3) (N := 3) hx hb hts hiX3 hown hN.1 (mE_P1 hE ((S_r (by omega) (by omega)).trans (Q_4))) 0 rfl rfl 0 (by decide) (hts (.fieldLink RX3 9 "SealedCupboardsLaw$Sim" "things" "[[I") (by decide +kernel)) (fun _ h9 => h9) rfl dX3_isSame_194 ?_
            refine lv_iload hx hb dX3_isSame_197 (lv_at hl 2 rfl) ?_
            refine mx_ralda hx hb hN hE ((S_r (by omega) (by omega)).trans (Q_5)) (j := c) rfl (by omega) (by omega) (Q_5at h_c) dX3_isSame_199 ?_
            refine lv_iload hx hb dX3_isSame_200 (lv_at hl 0 rfl) ?_
            refine mx_iald hx hb hN hE ((S_r (by omega) (by omega)).trans ((Q_te h_c rfl))) (j := d) rfl (by omega) (by decide) dX3_isSame_202 ?_
            rw [jV_u hJ h_c (show d < 16 by omega)]
            refine lv_icmp_eq (tgt := 208) hx hb dX3_isSame_203 (by decide) (fun c40 => ?_) (fun c40 => ?_)
            · skip
              refine lv_iinc (v := nI (d + 1)) (lv' := [(9, .int (nI (d + 1))), (7, .ref (ad1 60)), (6, .int (nI c)), (5, .int (mTot (fun i => v (300 + i)) c)), (4, .int (mChs v (c + 1))), (3, .int (nI (mDif v (c + 1)))), (2, .int (nI n)), (0, .ref (ad1 4)), (1, .ref (ad1 0))]) hx hb dX3_isSame_208 hl (k := 0) rfl (nI_add _ _) (by decide) rfl (fun ls hl => ?_)
              refine lv_goto (tgt := 136) hx hb dX3_isSame_211 (by decide) ?_
              exact ih21 (16 - (d + 1)) (d + 1) _ _ _ (by rw [hn22]; omega) ⟨rfl, (by omega), hE, lv_sub hl [0, 1, 2, 3, 4, 5, 6, 7, 8] rfl⟩
            · skip
              exact absurd rfl c40
      · skip
        have c20 := Classical.not_not.mp (fun h9 => c20 (mb_0.mpr h9))
        refine lv_iconst (v := nI 1) hx hb dX3_isSame_114 (by decide) ?_
        refine lv_goto (tgt := 119) hx hb dX3_isSame_115 (by decide) ?_
        refine mv_iadd (z := nI ((mDif v c) + 1)) hx hb (nI_add _ _) dX3_isSame_119 ?_
        have e9 : (mDif v c) + 1 = mDif v (c + 1) := by show _ = mDif v c + (if mHas v (v (300 + c) 1) c = true then 0 else 1); rw [if_neg c20]
        rw [e9]
        refine lv_istore_n (lv' := [(3, .int (nI (mDif v (c + 1)))), (9, .int (nI c)), (8, .int (mb (¬ mHas v (v (300 + c) 1) c = true))), (7, .ref (ad1 60)), (6, .int (nI c)), (5, .int (mTot (fun i => v (300 + i)) c)), (4, .int (mChs v c)), (2, .int (nI n)), (0, .ref (ad1 4)), (1, .ref (ad1 0))]) hx hb dX3_isSame_120 rfl hl (by decide) rfl (fun ls hl => ?_)
        refine lv_iload hx hb dX3_isSame_121 (lv_at hl 6 rfl) ?_
        refine lv_aload_n hx hb dX3_isSame_123 rfl (lv_at hl 8 rfl) ?_
        refine va_get (D := G) (ci := 3) (v := .ref (ad1 7)) (C := RX3) (T := TX3) (N := 3) hx hb hts hiX3 hown hN.1 (mE_P1 hE ((S_r (by omega) (by omega)).trans (Q_4))) 0 rfl rfl 2 (by decide) (hts (.fieldLink RX3 18 "SealedCupboardsLaw$Sim" "changes" "[I") (by decide +kernel)) (fun _ h9 => h9) rfl dX3_isSame_124 ?_
        refine lv_iload hx hb dX3_isSame_127 (lv_at hl 4 rfl) ?_
        refine mx_iald hx hb hN hE ((S_r (by omega) (by omega)).trans ((Q_7e rfl))) (j := c) rfl (by omega) (by decide) dX3_isSame_129 ?_
        rw [jV_7 hJ h_c]
        refine mv_iadd (z := (mChs v c) + (v (100 + c) 2)) hx hb rfl dX3_isSame_130 ?_
        refine lv_istore (lv' := [(4, .int ((mChs v c) + (v (100 + c) 2))), (3, .int (nI (mDif v (c + 1)))), (9, .int (nI c)), (8, .int (mb (¬ mHas v (v (300 + c) 1) c = true))), (7, .ref (ad1 60)), (6, .int (nI c)), (5, .int (mTot (fun i => v (300 + i)) c)), (2, .int (nI n)), (0, .ref (ad1 4)), (1, .ref (ad1 0))]) hx hb dX3_isSame_131 hl (by decide) rfl (fun ls hl => ?_)
        have hl : lv_has ls 13 [(4, .int (mChs v (c + 1))), (3, .int (nI (mDif v (c + 1)))), (9, .int (nI c)), (8, .int (mb (¬ mHas v (v (300 + c) 1) c = true))), (7, .ref (ad1 60)), (6, .int (nI c)), (5, .int (mTot (fun i => v (300 + i)) c)), (2, .int (nI n)), (0, .ref (ad1 4)), (1, .ref (ad1 0))] := hl
        refine lv_iconst (v := nI 0) hx hb dX3_isSame_133 (by decide) ?_
        refine lv_istore (lv' := [(9, .int (nI 0)), (4, .int (mChs v (c + 1))), (3, .int (nI (mDif v (c + 1)))), (8, .int (mb (¬ mHas v (v (300 + c) 1) c = true))), (7, .ref (ad1 60)), (6, .int (nI c)), (5, .int (mTot (fun i => v (300 + i)) c)), (2, .int (nI n)), (0, .ref (ad1 4)), (1, .ref (ad1 0))]) hx hb dX3_isSame_134 hl (by decide) rfl (fun ls hl => ?_)
        refine mx_loop (β := Nat) (fun n9 (d : Nat) H locs ls => n9 = 16 - d ∧ (d ≤ 16) ∧ mE G (mA ad (Sy cy ad n k v (Si cy ad n k u x)) s.heap.size) s.heap ad1 (Sy cy ad1 n k v (Si cy ad1 n k u (mU x (60) (mI cy 6 (jT (v (300 + c) 1) (v (100 + c) 2) (nI (mFill (v (200 + c)) d)) (mAdd (v (200 + c)) d) (nI 0) (nI 0)))))) H locs ∧ lv_has ls 13 [(9, .int (nI d)), (7, .ref (ad1 60)), (6, .int (nI c)), (5, .int (mTot (fun i => v (300 + i)) c)), (4, .int (mChs v (c + 1))), (3, .int (nI (mDif v (c + 1)))), (2, .int (nI n)), (0, .ref (ad1 4)), (1, .ref (ad1 0))]) ?_ (16 - 0) (0) _ _ _ ⟨rfl, (by omega), hE, lv_sub hl [0, 4, 5, 6, 1, 2, 7, 8, 9] rfl⟩
        intro n9 d H locs ls hI ih41
        obtain ⟨hn42, hle_d, hE, hl⟩ := hI
        have hfl := mFill_le (v (200 + c)) d
        have hE : mE G (mA ad (Sy cy ad n k v (Si cy ad n k u x)) s.heap.size) s.heap ad1 (Sy cy ad1 n k v (Si cy ad1 n k u (mU x (60) (mI cy 6 (jT (v (300 + c) 1) (v (100 + c) 2) (nI (mFill (v (200 + c)) d)) (mAdd (v (200 + c)) d) (nI 0) (nI 0)))))) H locs := hE
        have hl : lv_has ls 13 [(9, .int (nI d)), (7, .ref (ad1 60)), (6, .int (nI c)), (5, .int (mTot (fun i => v (300 + i)) c)), (4, .int (mChs v (c + 1))), (3, .int (nI (mDif v (c + 1)))), (2, .int (nI n)), (0, .ref (ad1 4)), (1, .ref (ad1 0))] := hl
        refine lv_iload hx hb dX3_isSame_136 (lv_at hl 0 rfl) ?_
        refine lv_bipush (v := nI 16) hx hb dX3_isSame_138 (by decide) ?_
        refine mv_ge (tgt := 214) hx hb (by omega) (by omega) dX3_isSame_140 (by decide) (fun c43 => ?_) (fun c43 => ?_)
        · skip
          rw [show d = 16 by omega] at hE
          have hE : mE G (mA ad (Sy cy ad n k v (Si cy ad n k u x)) s.heap.size) s.heap ad1 (Sy cy ad1 n k v (Si cy ad1 n k u (mU x (60) (mI cy 6 (jT (v (300 + c) 1) (v (100 + c) 2) (nI (mFill (v (200 + c)) 16)) (mAdd (v (200 + c)) 16) (nI (mSof v (nI c) 0)) (nI (mSkp v (nI c) (v (300 + c) 1) 0))))))) H locs := hE
          refine lv_aload_n hx hb dX3_isSame_214 rfl (lv_at hl 7 rfl) ?_
          refine va_get (D := G) (ci := 3) (v := .ref (ad1 6)) (C := RX3) (T := TX3) (N := 3) hx hb hts hiX3 hown hN.1 (mE_P1 hE ((S_r (by omega) (by omega)).trans (Q_4))) 0 rfl rfl 1 (by decide) (hts (.fieldLink RX3 15 "SealedCupboardsLaw$Sim" "seals" "[[I") (by decide +kernel)) (fun _ h9 => h9) rfl dX3_isSame_215 ?_
          refine lv_astore (lv' := [(9, .ref (ad1 6)), (7, .ref (ad1 60)), (6, .int (nI c)), (5, .int (mTot (fun i => v (300 + i)) c)), (4, .int (mChs v (c + 1))), (3, .int (nI (mDif v (c + 1)))), (2, .int (nI n)), (0, .ref (ad1 4)), (1, .ref (ad1 0))]) hx hb dX3_isSame_218 hl (by decide) rfl (fun ls hl => ?_)
          refine lv_aload hx hb dX3_isSame_220 (lv_at hl 0 rfl) ?_
          refine va_alen (v := nI k) hx hb hN.1 (mE_P1 hE ((S_r (by omega) (by omega)).trans (Q_6))) 0 3 rfl rfl rfl dX3_isSame_222 ?_
          refine lv_istore (lv' := [(10, .int (nI k)), (9, .ref (ad1 6)), (7, .ref (ad1 60)), (6, .int (nI c)), (5, .int (mTot (fun i => v (300 + i)) c)), (4, .int (mChs v (c + 1))), (3, .int (nI (mDif v (c + 1)))), (2, .int (nI n)), (0, .ref (ad1 4)), (1, .ref (ad1 0))]) hx hb dX3_isSame_223 hl (by decide) rfl (fun ls hl => ?_)
          refine lv_iconst (v := nI 0) hx hb dX3_isSame_225 (by decide) ?_
          refine lv_istore (lv' := [(11, .int (nI 0)), (10, .int (nI k)), (9, .ref (ad1 6)), (7, .ref (ad1 60)), (6, .int (nI c)), (5, .int (mTot (fun i => v (300 + i)) c)), (4, .int (mChs v (c + 1))), (3, .int (nI (mDif v (c + 1)))), (2, .int (nI n)), (0, .ref (ad1 4)), (1, .ref (ad1 0))]) hx hb dX3_isSame_226 hl (by decide) rfl (fun ls hl => ?_)
          refine mx_loop (β := Nat) (fun n9 (j9 : Nat) H locs ls => n9 = k - j9 ∧ (j9 ≤ k) ∧ mE G (mA ad (Sy cy ad n k v (Si cy ad n k u x)) s.heap.size) s.heap ad1 (Sy cy ad1 n k v (Si cy ad1 n k u (mU x (60) (mI cy 6 (jT (v (300 + c) 1) (v (100 + c) 2) (nI (mFill (v (200 + c)) 16)) (mAdd (v (200 + c)) 16) (nI (mSof v (nI c) j9)) (nI (mSkp v (nI c) (v (300 + c) 1) j9))))))) H locs ∧ lv_has ls 13 [(11, .int (nI j9)), (10, .int (nI k)), (9, .ref (ad1 6)), (7, .ref (ad1 60)), (6, .int (nI c)), (5, .int (mTot (fun i => v (300 + i)) c)), (4, .int (mChs v (c + 1))), (3, .int (nI (mDif v (c + 1)))), (2, .int (nI n)), (0, .ref (ad1 4)), (1, .ref (ad1 0))]) ?_ (k - 0) (0) _ _ _ ⟨rfl, (by omega), hE, lv_sub hl [0, 1, 2, 3, 4, 5, 6, 7, 8, 9, 10] rfl⟩
          intro n9 j9 H locs ls hI ih44
          obtain ⟨hn45, hle_j9, hE, hl⟩ := hI
          have hs1 := mSof_le v (nI c) j9
          have hs2 := mSkp_le v (nI c) (v (300 + c) 1) j9
          have hE : mE G (mA ad (Sy cy ad n k v (Si cy ad n k u x)) s.heap.size) s.heap ad1 (Sy cy ad1 n k v (Si cy ad1 n k u (mU x (60) (mI cy 6 (jT (v (300 + c) 1) (v (100 + c) 2) (nI (mFill (v (200 + c)) 16)) (mAdd (v (200 + c)) 16) (nI (mSof v (nI c) j9)) (nI (mSkp v (nI c) (v (300 + c) 1) j9))))))) H locs := hE
          have hl : lv_has ls 13 [(11, .int (nI j9)), (10, .int (nI k)), (9, .ref (ad1 6)), (7, .ref (ad1 60)), (6, .int (nI c)), (5, .int (mTot (fun i => v (300 + i)) c)), (4, .int (mChs v (c + 1))), (3, .int (nI (mDif v (c + 1)))), (2, .int (nI n)), (0, .ref (ad1 4)), (1, .ref (ad1 0))] := hl
          refine lv_iload hx hb dX3_isSame_228 (lv_at hl 0 rfl) ?_
          refine lv_iload hx hb dX3_isSame_230 (lv_at hl 1 rfl) ?_
          refine mv_ge (tgt := 301) hx hb (by omega) (by omega) dX3_isSame_232 (by decide) (fun c46 => ?_) (fun c46 => ?_)
          · skip
            rw [show j9 = k by omega] at hE
            refine lv_iconst (v := nI 0) hx hb dX3_isSame_301 (by decide) ?_
            refine lv_istore (lv' := [(9, .int (nI 0)), (11, .int (nI j9)), (10, .int (nI k)), (7, .ref (ad1 60)), (6, .int (nI c)), (5, .int (mTot (fun i => v (300 + i)) c)), (4, .int (mChs v (c + 1))), (3, .int (nI (mDif v (c + 1)))), (2, .int (nI n)), (0, .ref (ad1 4)), (1, .ref (ad1 0))]) hx hb dX3_isSame_302 hl (by decide) rfl (fun ls hl => ?_)
            refine mx_loop (β := Nat) (fun n9 (w9 : Nat) H locs ls => n9 = 6 - w9 ∧ (w9 ≤ 6) ∧ mE G (mA ad (Sy cy ad n k v (Si cy ad n k u x)) s.heap.size) s.heap ad1 (Sy cy ad1 n k v (Si cy ad1 n k u (mU x (60) (mI cy 6 (jT (v (300 + c) 1) (v (100 + c) 2) (nI (mFill (v (200 + c)) 16)) (mAdd (v (200 + c)) 16) (nI (mSof v (nI c) k)) (nI (mSkp v (nI c) (v (300 + c) 1) k))))))) H locs ∧ lv_has ls 13 [(9, .int (nI w9)), (7, .ref (ad1 60)), (6, .int (nI c)), (5, .int (mTot (fun i => v (300 + i)) c)), (4, .int (mChs v (c + 1))), (3, .int (nI (mDif v (c + 1)))), (2, .int (nI n)), (0, .ref (ad1 4)), (1, .ref (ad1 0))]) ?_ (6 - 0) (0) _ _ _ ⟨rfl, (by omega), hE, lv_sub hl [0, 3, 4, 5, 6, 7, 8, 9, 10] rfl⟩
            intro n9 w9 H locs ls hI ih47
            obtain ⟨hn48, hle_w9, hE, hl⟩ := hI
            have hE : mE G (mA ad (Sy cy ad n k v (Si cy ad n k u x)) s.heap.size) s.heap ad1 (Sy cy ad1 n k v (Si cy ad1 n k u (mU x (60) (mI cy 6 (jT (v (300 + c) 1) (v (100 + c) 2) (nI (mFill (v (200 + c)) 16)) (mAdd (v (200 + c)) 16) (nI (mSof v (nI c) k)) (nI (mSkp v (nI c) (v (300 + c) 1) k))))))) H locs := hE
            have hl : lv_has ls 13 [(9, .int (nI w9)), (7, .ref (ad1 60)), (6, .int (nI c)), (5, .int (mTot (fun i => v (300 + i)) c)), (4, .int (mChs v (c + 1))), (3, .int (nI (mDif v (c + 1)))), (2, .int (nI n)), (0, .ref (ad1 4)), (1, .ref (ad1 0))] := hl
            refine lv_iload hx hb dX3_isSame_304 (lv_at hl 0 rfl) ?_
            refine lv_bipush (v := nI 6) hx hb dX3_isSame_306 (by decide) ?_
            refine mv_ge (tgt := 335) hx hb (by omega) (by omega) dX3_isSame_308 (by decide) (fun c49 => ?_) (fun c49 => ?_)
            · skip
              refine lv_iconst (v := nI 1) hx hb dX3_isSame_335 (by decide) ?_
              refine lv_istore (lv' := [(9, .int (nI 1)), (7, .ref (ad1 60)), (6, .int (nI c)), (5, .int (mTot (fun i => v (300 + i)) c)), (4, .int (mChs v (c + 1))), (3, .int (nI (mDif v (c + 1)))), (2, .int (nI n)), (0, .ref (ad1 4)), (1, .ref (ad1 0))]) hx hb dX3_isSame_336 hl (by decide) rfl (fun ls hl => ?_)
              refine mx_loop (β := Nat) (fun n9 (q : Nat) H locs ls => n9 = 31 - q ∧ (q ≤ 31) ∧ mE G (mA ad (Sy cy ad n k v (Si cy ad n k u x)) s.heap.size) s.heap ad1 (Sy cy ad1 n k v (Si cy ad1 n k u (mU x (60) (mI cy 6 (jT (v (300 + c) 1) (v (100 + c) 2) (nI (mFill (v (200 + c)) 16)) (mAdd (v (200 + c)) 16) (nI (mSof v (nI c) k)) (nI (mSkp v (nI c) (v (300 + c) 1) k))))))) H locs ∧ lv_has ls 13 [(9, .int (nI (q + 1))), (6, .int (nI c)), (5, .int (mTo1 (v (300 + c)) (mTot (fun i => v (300 + i)) c) q)), (4, .int (mChs v (c + 1))), (3, .int (nI (mDif v (c + 1)))), (2, .int (nI n)), (0, .ref (ad1 4)), (1, .ref (ad1 0))]) ?_ (31 - 0) (0) _ _ _ ⟨rfl, (by omega), hE, lv_sub hl [0, 2, 3, 4, 5, 6, 7, 8] rfl⟩
              intro n9 q H locs ls hI ih50
              obtain ⟨hn51, hle_q, hE, hl⟩ := hI
              have hE : mE G (mA ad (Sy cy ad n k v (Si cy ad n k u x)) s.heap.size) s.heap ad1 (Sy cy ad1 n k v (Si cy ad1 n k u (mU x (60) (mI cy 6 (jT (v (300 + c) 1) (v (100 + c) 2) (nI (mFill (v (200 + c)) 16)) (mAdd (v (200 + c)) 16) (nI (mSof v (nI c) k)) (nI (mSkp v (nI c) (v (300 + c) 1) k))))))) H locs := hE
              have hl : lv_has ls 13 [(9, .int (nI (q + 1))), (6, .int (nI c)), (5, .int (mTo1 (v (300 + c)) (mTot (fun i => v (300 + i)) c) q)), (4, .int (mChs v (c + 1))), (3, .int (nI (mDif v (c + 1)))), (2, .int (nI n)), (0, .ref (ad1 4)), (1, .ref (ad1 0))] := hl
              refine lv_iload hx hb dX3_isSame_338 (lv_at hl 0 rfl) ?_
              refine lv_bipush (v := nI 32) hx hb dX3_isSame_340 (by decide) ?_
              refine mv_ge (tgt := 368) hx hb (by omega) (by omega) dX3_isSame_342 (by decide) (fun c52 => ?_) (fun c52 => ?_)
              · skip
                rw [show q = 31 by omega] at hl
                have hl : lv_has ls 13 [(9, .int (nI (31 + 1))), (6, .int (nI c)), (5, .int (mTot (fun i => v (300 + i)) (c + 1))), (4, .int (mChs v (c + 1))), (3, .int (nI (mDif v (c + 1)))), (2, .int (nI n)), (0, .ref (ad1 4)), (1, .ref (ad1 0))] := hl
                have hE : mE G (mA ad (Sy cy ad n k v (Si cy ad n k u x)) s.heap.size) s.heap ad1 (Sy cy ad1 n k v (Si cy ad1 n k u x)) H locs := mE_drop hE (fun j e hj => S_imp (fun _ _ h9 => Q_drop h60 x60 h9) hj)
                have w2 : Sy cy ad n k v (Si cy ad n k u x) = Sy cy ad1 n k v (Si cy ad1 n k u x) := by rw [Q_ad (ad' := ad1) (fun j hj => hj1 j (fun h => h60 (h ▸ hj))), S_adc (ad' := ad1) (fun j hj => hj1 j (by omega))]
                rw [← w2] at hE
                have hE : mE G (mA ad (Sy cy ad n k v (Si cy ad n k u x)) s.heap.size) s.heap ad (Sy cy ad n k v (Si cy ad n k u x)) H locs := mE_adr hE (fun j hj => (hj1 j (fun h => hj (by rw [h]; exact (S_r (by decide) (by decide)).trans ((Q_r h60).trans x60)))).symm)
                have hl : lv_has ls 13 [(9, .int (nI (31 + 1))), (6, .int (nI c)), (5, .int (mTot (fun i => v (300 + i)) (c + 1))), (4, .int (mChs v (c + 1))), (3, .int (nI (mDif v (c + 1)))), (2, .int (nI n)), (0, .ref (ad1 4)), (1, .ref (ad1 0))] := lv_sub hl [0, 1, 2, 3, 4, 5, 6, 7] rfl
                rw [hj1 0 (by decide), hj1 4 (by decide)] at hl
                refine lv_iinc (v := nI (c + 1)) (lv' := [(6, .int (nI (c + 1))), (9, .int (nI (31 + 1))), (5, .int (mTot (fun i => v (300 + i)) (c + 1))), (4, .int (mChs v (c + 1))), (3, .int (nI (mDif v (c + 1)))), (2, .int (nI n)), (0, .ref (ad 4)), (1, .ref (ad 0))]) hx hb dX3_isSame_368 hl (k := 1) rfl (nI_add _ _) (by decide) rfl (fun ls hl => ?_)
                refine lv_goto (tgt := 17) hx hb dX3_isSame_371 (by decide) ?_
                refine W.widen (k := 0 + 1 * (n - (n - (c + 1)))) (n := 0 + 6 * (n - (n - (c + 1)))) (by omega) (by omega) ?_
                exact ih1 (n - (c + 1)) (c + 1) _ _ _ (by rw [hn2]; omega) ⟨rfl, (by omega), hE, lv_sub hl [0, 2, 3, 4, 5, 6, 7] rfl⟩
              · skip
                refine lv_iload hx hb dX3_isSame_345 (lv_at hl 2 rfl) ?_
                refine lv_aload_n hx hb dX3_isSame_347 rfl (lv_at hl 6 rfl) ?_
                refine va_get (D := G) (ci := 3) (v := .ref (ad1 5)) (C := RX3) (T := TX3) (N := 3) hx hb hts hiX3 hown hN.1 (mE_P1 hE ((S_r (by omega) (by omega)).trans (Q_4))) 0 rfl rfl 0 (by decide) (hts (.fieldLink RX3 9 "SealedCupboardsLaw$Sim" "things" "[[I") (by decide +kernel)) (fun _ h9 => h9) rfl dX3_isSame_348 ?_
                refine lv_iload hx hb dX3_isSame_351 (lv_at hl 1 rfl) ?_
                refine mx_ralda hx hb hN hE ((S_r (by omega) (by omega)).trans (Q_5)) (j := c) rfl (by omega) (by omega) (Q_5at h_c) dX3_isSame_353 ?_
                refine lv_iload hx hb dX3_isSame_354 (lv_at hl 0 rfl) ?_
                refine va_calli (va_runS (As := [.ref (ad1 (20 + c)), .int (nI (q + 1))]) (rest := [.int (mTo1 (v (300 + c)) (mTot (fun i => v (300 + i)) c) q)]) ⟨hx, hb, hml, hown, hts⟩ (c_X3_sum l G cy ad1 (Sy cy ad1 n k v (Si cy ad1 n k u (mU x (60) (mI cy 6 (jT (v (300 + c) 1) (v (100 + c) 2) (nI (mFill (v (200 + c)) 16)) (mAdd (v (200 + c)) 16) (nI (mSof v (nI c) k)) (nI (mSkp v (nI c) (v (300 + c) 1) k))))))) _ (20 + c) (q + 1) (u (20 + c)) ((S_r (by omega) (by omega)).trans ((Q_te h_c rfl))) (by omega) (by omega)) (va_cwS 2 hts gX3_isSame_X3_sum rfl rfl rfl (by decide +kernel) ⟨Nat.le_of_ble_eq_true rfl, Nat.le_of_ble_eq_true rfl⟩) (mP_S hN hE) rfl rfl hl.1 rfl (lv_room (Nat.le_of_ble_eq_true rfl)) dX3_isSame_356 ⟨(by show _ ≤ 26; omega), (by show _ ≤ 116; omega)⟩) hE.2.2.2 (fun q _ h => mE_A hE q h) (mE_A hE) (fun r uq tq H locs ht hvm hw hB hz1 hk1 hS => ?_)
                obtain ⟨rfl, rfl⟩ := hw
                have hE : mE G (mA ad (Sy cy ad n k v (Si cy ad n k u x)) s.heap.size) s.heap ad1 (Sy cy ad1 n k v (Si cy ad1 n k u (mU x (60) (mI cy 6 (jT (v (300 + c) 1) (v (100 + c) 2) (nI (mFill (v (200 + c)) 16)) (mAdd (v (200 + c)) 16) (nI (mSof v (nI c) k)) (nI (mSkp v (nI c) (v (300 + c) 1) k))))))) H locs := mE_call hE hB ht hS
                rw [← jV_S hJ h_c (q + 1) (by omega) (by omega)]
                refine mv_iadd (z := (mTo1 (v (300 + c)) (mTot (fun i => v (300 + i)) c) q) + (v (300 + c) (q + 1))) hx hb rfl dX3_isSame_359 ?_
                refine lv_istore (lv' := [(5, .int ((mTo1 (v (300 + c)) (mTot (fun i => v (300 + i)) c) q) + (v (300 + c) (q + 1)))), (9, .int (nI (q + 1))), (6, .int (nI c)), (4, .int (mChs v (c + 1))), (3, .int (nI (mDif v (c + 1)))), (2, .int (nI n)), (0, .ref (ad1 4)), (1, .ref (ad1 0))]) hx hb dX3_isSame_360 hl (by decide) rfl (fun ls hl => ?_)
                have hl : lv_has ls 13 [(5, .int (mTo1 (v (300 + c)) (mTot (fun i => v (300 + i)) c) (q + 1))), (9, .int (nI (q + 1))), (6, .int (nI c)), (4, .int (mChs v (c + 1))), (3, .int (nI (mDif v (c + 1)))), (2, .int (nI n)), (0, .ref (ad1 4)), (1, .ref (ad1 0))] := hl
                refine lv_iinc (v := nI ((q + 1) + 1)) (lv' := [(9, .int (nI ((q + 1) + 1))), (5, .int (mTo1 (v (300 + c)) (mTot (fun i => v (300 + i)) c) (q + 1))), (6, .int (nI c)), (4, .int (mChs v (c + 1))), (3, .int (nI (mDif v (c + 1)))), (2, .int (nI n)), (0, .ref (ad1 4)), (1, .ref (ad1 0))]) hx hb dX3_isSame_362 hl (k := 1) rfl (nI_add _ _) (by decide) rfl (fun ls hl => ?_)
                refine lv_goto (tgt := 338) hx hb dX3_isSame_365 (by decide) ?_
                exact ih50 (31 - (q + 1)) (q + 1) _ _ _ (by rw [hn51]; omega) ⟨rfl, (by omega), hE, lv_sub hl [0, 2, 1, 3, 4, 5, 6, 7] rfl⟩
            · skip
              refine lv_aload_n hx hb dX3_isSame_311 rfl (lv_at hl 8 rfl) ?_
              refine lv_iload hx hb dX3_isSame_312 (lv_at hl 2 rfl) ?_
              refine lv_iload hx hb dX3_isSame_314 (lv_at hl 0 rfl) ?_
              refine va_calli (va_runV (As := [.int (nI c), .int (nI w9)]) (rest := []) ⟨hx, hb, hml, hown, hts⟩ (c_X2_told l G cy ad1 n k v (Si cy ad1 n k u (mU x (60) (mI cy 6 (jT (v (300 + c) 1) (v (100 + c) 2) (nI (mFill (v (200 + c)) 16)) (mAdd (v (200 + c)) 16) (nI (mSof v (nI c) k)) (nI (mSkp v (nI c) (v (300 + c) 1) k)))))) hn hk _ c h_c w9 (by omega)) (cwV 2 hts gX3_isSame_X2_told rfl rfl rfl (by decide +kernel) ⟨Nat.le_of_ble_eq_true rfl, Nat.le_of_ble_eq_true rfl⟩) (mP_V (r := (RX2, TX2, 5)) hN hE S_0 rfl) rfl rfl hl.1 rfl (lv_room (Nat.le_of_ble_eq_true rfl)) dX3_isSame_316 ⟨(by show _ ≤ 26; omega), (by show _ ≤ 116; omega)⟩) hE.2.2.2 (fun q _ h => mE_A hE q h) (mE_A hE) (fun r uq tq H locs ht hvm hw hB hz1 hk1 hS => ?_)
              obtain ⟨rfl, rfl⟩ := hw
              have hE : mE G (mA ad (Sy cy ad n k v (Si cy ad n k u x)) s.heap.size) s.heap ad1 (Sy cy ad1 n k v (Si cy ad1 n k u (mU x (60) (mI cy 6 (jT (v (300 + c) 1) (v (100 + c) 2) (nI (mFill (v (200 + c)) 16)) (mAdd (v (200 + c)) 16) (nI (mSof v (nI c) k)) (nI (mSkp v (nI c) (v (300 + c) 1) k))))))) H locs := mE_call hE hB ht hS
              refine lv_aload hx hb dX3_isSame_319 (lv_at hl 1 rfl) ?_
              refine lv_iload hx hb dX3_isSame_321 (lv_at hl 0 rfl) ?_
              refine mx_iald hx hb hN hE ((S_r (by omega) (by omega)).trans ((Q_r (by unfold jIs; omega)).trans (mU_s _ _ _))) (j := w9) rfl (by omega) (by decide) dX3_isSame_323 ?_
              rw [jT_told (show w9 < 6 by omega)]
              refine lv_icmp_eq (tgt := 329) hx hb dX3_isSame_324 (by decide) (fun c53 => ?_) (fun c53 => ?_)
              · skip
                refine lv_iinc (v := nI (w9 + 1)) (lv' := [(9, .int (nI (w9 + 1))), (7, .ref (ad1 60)), (6, .int (nI c)), (5, .int (mTot (fun i => v (300 + i)) c)), (4, .int (mChs v (c + 1))), (3, .int (nI (mDif v (c + 1)))), (2, .int (nI n)), (0, .ref (ad1 4)), (1, .ref (ad1 0))]) hx hb dX3_isSame_329 hl (k := 0) rfl (nI_add _ _) (by decide) rfl (fun ls hl => ?_)
                refine lv_goto (tgt := 304) hx hb dX3_isSame_332 (by decide) ?_
                exact ih47 (6 - (w9 + 1)) (w9 + 1) _ _ _ (by rw [hn48]; omega) ⟨rfl, (by omega), hE, lv_sub hl [0, 1, 2, 3, 4, 5, 6, 7, 8] rfl⟩
              · skip
                exact absurd rfl c53
          · skip
            have h_j9 : j9 < k := by omega
            refine lv_aload hx hb dX3_isSame_235 (lv_at hl 2 rfl) ?_
            refine lv_iload hx hb dX3_isSame_237 (lv_at hl 0 rfl) ?_
            refine mx_ralda hx hb hN hE ((S_r (by omega) (by omega)).trans (Q_6)) (j := j9) rfl (by omega) (by omega) (Q_6at h_j9) dX3_isSame_239 ?_
            refine lv_astore (lv' := [(12, .ref (ad1 (40 + j9))), (11, .int (nI j9)), (10, .int (nI k)), (9, .ref (ad1 6)), (7, .ref (ad1 60)), (6, .int (nI c)), (5, .int (mTot (fun i => v (300 + i)) c)), (4, .int (mChs v (c + 1))), (3, .int (nI (mDif v (c + 1)))), (2, .int (nI n)), (0, .ref (ad1 4)), (1, .ref (ad1 0))]) hx hb dX3_isSame_240 hl (by decide) rfl (fun ls hl => ?_)
            refine lv_aload hx hb dX3_isSame_242 (lv_at hl 4 rfl) ?_
            refine lv_iconst (v := nI 4) hx hb dX3_isSame_244 (by decide) ?_
            refine lv_dup2_11 hx hb dX3_isSame_245 rfl rfl ?_
            refine mx_iald hx hb hN hE ((S_r (by omega) (by omega)).trans ((Q_r (by unfold jIs; omega)).trans (mU_s _ _ _))) (j := 4) rfl (by omega) (by decide) dX3_isSame_246 ?_
            refine lv_aload hx hb dX3_isSame_247 (lv_at hl 0 rfl) ?_
            refine lv_iconst (v := nI 0) hx hb dX3_isSame_249 (by decide) ?_
            refine mx_iald hx hb hN hE ((S_r (by omega) (by omega)).trans ((Q_se hN6 h_j9 rfl))) (j := 0) rfl (by omega) (by decide) dX3_isSame_250 ?_
            rw [jV_s hJ h_j9 (by decide)]
            refine lv_iload hx hb dX3_isSame_251 (lv_at hl 5 rfl) ?_
            refine lv_icmp_ne (tgt := 260) hx hb dX3_isSame_253 (by decide) (fun c54 => ?_) (fun c54 => ?_)
            · skip
              refine lv_iconst (v := nI 0) hx hb dX3_isSame_260 (by decide) ?_
              refine mv_iadd (z := nI ((mSof v (nI c) j9) + 0)) hx hb (nI_add _ _) dX3_isSame_261 ?_
              refine mx_iast hx hb hN hE ((S_r (by omega) (by omega)).trans ((Q_r (by unfold jIs; omega)).trans (mU_s _ _ _))) (j := 4) rfl (by omega) (by decide) dX3_isSame_262 (fun H locs hE => ?_)
              have hE : mE G (mA ad (Sy cy ad n k v (Si cy ad n k u x)) s.heap.size) s.heap ad1 (Sy cy ad1 n k v (Si cy ad1 n k u (mU x (60) (mI cy 6 (upd ((jT (v (300 + c) 1) (v (100 + c) 2) (nI (mFill (v (200 + c)) 16)) (mAdd (v (200 + c)) 16) (nI (mSof v (nI c) j9)) (nI (mSkp v (nI c) (v (300 + c) 1) j9)))) 4 (nI ((mSof v (nI c) j9) + 0))))))) H locs := by rw [S_ux (by omega) (by omega), Q_ux (by unfold jIs; omega), jU_uu] at hE; exact hE
              have e9 : mSof v (nI c) j9 + 0 = mSof v (nI c) (j9 + 1) := by show _ = mSof v (nI c) j9 + (if v (400 + j9) 0 = nI c then 1 else 0); rw [if_neg c54]
              rw [jT_4, e9] at hE
              refine lv_aload hx hb dX3_isSame_263 (lv_at hl 4 rfl) ?_
              refine lv_iconst (v := nI 5) hx hb dX3_isSame_265 (by decide) ?_
              refine lv_dup2_11 hx hb dX3_isSame_266 rfl rfl ?_
              refine mx_iald hx hb hN hE ((S_r (by omega) (by omega)).trans ((Q_r (by unfold jIs; omega)).trans (mU_s _ _ _))) (j := 5) rfl (by omega) (by decide) dX3_isSame_267 ?_
              refine lv_aload hx hb dX3_isSame_268 (lv_at hl 0 rfl) ?_
              refine lv_iconst (v := nI 0) hx hb dX3_isSame_270 (by decide) ?_
              refine mx_iald hx hb hN hE ((S_r (by omega) (by omega)).trans ((Q_se hN6 h_j9 rfl))) (j := 0) rfl (by omega) (by decide) dX3_isSame_271 ?_
              rw [jV_s hJ h_j9 (by decide)]
              refine lv_iload hx hb dX3_isSame_272 (lv_at hl 5 rfl) ?_
              refine lv_icmp_ne (tgt := 292) hx hb dX3_isSame_274 (by decide) (fun c55 => ?_) (fun c55 => ?_)
              · skip
                refine lv_iconst (v := nI 0) hx hb dX3_isSame_292 (by decide) ?_
                refine mv_iadd (z := nI ((mSkp v (nI c) (v (300 + c) 1) j9) + 0)) hx hb (nI_add _ _) dX3_isSame_293 ?_
                refine mx_iast hx hb hN hE ((S_r (by omega) (by omega)).trans ((Q_r (by unfold jIs; omega)).trans (mU_s _ _ _))) (j := 5) rfl (by omega) (by decide) dX3_isSame_294 (fun H locs hE => ?_)
                have hE : mE G (mA ad (Sy cy ad n k v (Si cy ad n k u x)) s.heap.size) s.heap ad1 (Sy cy ad1 n k v (Si cy ad1 n k u (mU x (60) (mI cy 6 (upd ((jT (v (300 + c) 1) (v (100 + c) 2) (nI (mFill (v (200 + c)) 16)) (mAdd (v (200 + c)) 16) (nI (mSof v (nI c) (j9 + 1))) (nI (mSkp v (nI c) (v (300 + c) 1) j9)))) 5 (nI ((mSkp v (nI c) (v (300 + c) 1) j9) + 0))))))) H locs := by rw [S_ux (by omega) (by omega), Q_ux (by unfold jIs; omega), jU_uu] at hE; exact hE
                have e9 : mSkp v (nI c) (v (300 + c) 1) j9 + 0 = mSkp v (nI c) (v (300 + c) 1) (j9 + 1) := by show _ = mSkp v (nI c) (v (300 + c) 1) j9 + (if v (400 + j9) 0 = nI c ∧ v (400 + j9) 1 = v (300 + c) 1 then 1 else 0); rw [if_neg (fun h9 => c55 h9.1)]
                rw [jT_5, e9] at hE
                refine lv_iinc (v := nI (j9 + 1)) (lv' := [(11, .int (nI (j9 + 1))), (12, .ref (ad1 (40 + j9))), (10, .int (nI k)), (9, .ref (ad1 6)), (7, .ref (ad1 60)), (6, .int (nI c)), (5, .int (mTot (fun i => v (300 + i)) c)), (4, .int (mChs v (c + 1))), (3, .int (nI (mDif v (c + 1)))), (2, .int (nI n)), (0, .ref (ad1 4)), (1, .ref (ad1 0))]) hx hb dX3_isSame_295 hl (k := 1) rfl (nI_add _ _) (by decide) rfl (fun ls hl => ?_)
                refine lv_goto (tgt := 228) hx hb dX3_isSame_298 (by decide) ?_
                exact ih44 (k - (j9 + 1)) (j9 + 1) _ _ _ (by rw [hn45]; omega) ⟨rfl, (by omega), hE, lv_sub hl [0, 2, 3, 4, 5, 6, 7, 8, 9, 10, 11] rfl⟩
              · skip
                exact absurd c55 c54
            · skip
              refine lv_iconst (v := nI 1) hx hb dX3_isSame_256 (by decide) ?_
              refine lv_goto (tgt := 261) hx hb dX3_isSame_257 (by decide) ?_
              refine mv_iadd (z := nI ((mSof v (nI c) j9) + 1)) hx hb (nI_add _ _) dX3_isSame_261 ?_
              refine mx_iast hx hb hN hE ((S_r (by omega) (by omega)).trans ((Q_r (by unfold jIs; omega)).trans (mU_s _ _ _))) (j := 4) rfl (by omega) (by decide) dX3_isSame_262 (fun H locs hE => ?_)
              have hE : mE G (mA ad (Sy cy ad n k v (Si cy ad n k u x)) s.heap.size) s.heap ad1 (Sy cy ad1 n k v (Si cy ad1 n k u (mU x (60) (mI cy 6 (upd ((jT (v (300 + c) 1) (v (100 + c) 2) (nI (mFill (v (200 + c)) 16)) (mAdd (v (200 + c)) 16) (nI (mSof v (nI c) j9)) (nI (mSkp v (nI c) (v (300 + c) 1) j9)))) 4 (nI ((mSof v (nI c) j9) + 1))))))) H locs := by rw [S_ux (by omega) (by omega), Q_ux (by unfold jIs; omega), jU_uu] at hE; exact hE
              have e9 : mSof v (nI c) j9 + 1 = mSof v (nI c) (j9 + 1) := by show _ = mSof v (nI c) j9 + (if v (400 + j9) 0 = nI c then 1 else 0); rw [if_pos c54]
              rw [jT_4, e9] at hE
              refine lv_aload hx hb dX3_isSame_263 (lv_at hl 4 rfl) ?_
              refine lv_iconst (v := nI 5) hx hb dX3_isSame_265 (by decide) ?_
              refine lv_dup2_11 hx hb dX3_isSame_266 rfl rfl ?_
              refine mx_iald hx hb hN hE ((S_r (by omega) (by omega)).trans ((Q_r (by unfold jIs; omega)).trans (mU_s _ _ _))) (j := 5) rfl (by omega) (by decide) dX3_isSame_267 ?_
              refine lv_aload hx hb dX3_isSame_268 (lv_at hl 0 rfl) ?_
              refine lv_iconst (v := nI 0) hx hb dX3_isSame_270 (by decide) ?_
              refine mx_iald hx hb hN hE ((S_r (by omega) (by omega)).trans ((Q_se hN6 h_j9 rfl))) (j := 0) rfl (by omega) (by decide) dX3_isSame_271 ?_
              rw [jV_s hJ h_j9 (by decide)]
              refine lv_iload hx hb dX3_isSame_272 (lv_at hl 5 rfl) ?_
              refine lv_icmp_ne (tgt := 292) hx hb dX3_isSame_274 (by decide) (fun c56 => ?_) (fun c56 => ?_)
              · skip
                exact absurd c54 c56
              · skip
                refine lv_aload hx hb dX3_isSame_277 (lv_at hl 0 rfl) ?_
                refine lv_iconst (v := nI 1) hx hb dX3_isSame_279 (by decide) ?_
                refine mx_iald hx hb hN hE ((S_r (by omega) (by omega)).trans ((Q_se hN6 h_j9 rfl))) (j := 1) rfl (by omega) (by decide) dX3_isSame_280 ?_
                rw [jV_s hJ h_j9 (by decide)]
                refine lv_aload hx hb dX3_isSame_281 (lv_at hl 4 rfl) ?_
                refine lv_iconst (v := nI 0) hx hb dX3_isSame_283 (by decide) ?_
                refine mx_iald hx hb hN hE ((S_r (by omega) (by omega)).trans ((Q_r (by unfold jIs; omega)).trans (mU_s _ _ _))) (j := 0) rfl (by omega) (by decide) dX3_isSame_284 ?_
                refine lv_icmp_ne (tgt := 292) hx hb dX3_isSame_285 (by decide) (fun c57 => ?_) (fun c57 => ?_)
                · skip
                  refine lv_iconst (v := nI 0) hx hb dX3_isSame_292 (by decide) ?_
                  refine mv_iadd (z := nI ((mSkp v (nI c) (v (300 + c) 1) j9) + 0)) hx hb (nI_add _ _) dX3_isSame_293 ?_
                  refine mx_iast hx hb hN hE ((S_r (by omega) (by omega)).trans ((Q_r (by unfold jIs; omega)).trans (mU_s _ _ _))) (j := 5) rfl (by omega) (by decide) dX3_isSame_294 (fun H locs hE => ?_)
                  have hE : mE G (mA ad (Sy cy ad n k v (Si cy ad n k u x)) s.heap.size) s.heap ad1 (Sy cy ad1 n k v (Si cy ad1 n k u (mU x (60) (mI cy 6 (upd ((jT (v (300 + c) 1) (v (100 + c) 2) (nI (mFill (v (200 + c)) 16)) (mAdd (v (200 + c)) 16) (nI (mSof v (nI c) (j9 + 1))) (nI (mSkp v (nI c) (v (300 + c) 1) j9)))) 5 (nI ((mSkp v (nI c) (v (300 + c) 1) j9) + 0))))))) H locs := by rw [S_ux (by omega) (by omega), Q_ux (by unfold jIs; omega), jU_uu] at hE; exact hE
                  have e9 : mSkp v (nI c) (v (300 + c) 1) j9 + 0 = mSkp v (nI c) (v (300 + c) 1) (j9 + 1) := by show _ = mSkp v (nI c) (v (300 + c) 1) j9 + (if v (400 + j9) 0 = nI c ∧ v (400 + j9) 1 = v (300 + c) 1 then 1 else 0); rw [if_neg (fun h9 => c57 h9.2)]
                  rw [jT_5, e9] at hE
                  refine lv_iinc (v := nI (j9 + 1)) (lv' := [(11, .int (nI (j9 + 1))), (12, .ref (ad1 (40 + j9))), (10, .int (nI k)), (9, .ref (ad1 6)), (7, .ref (ad1 60)), (6, .int (nI c)), (5, .int (mTot (fun i => v (300 + i)) c)), (4, .int (mChs v (c + 1))), (3, .int (nI (mDif v (c + 1)))), (2, .int (nI n)), (0, .ref (ad1 4)), (1, .ref (ad1 0))]) hx hb dX3_isSame_295 hl (k := 1) rfl (nI_add _ _) (by decide) rfl (fun ls hl => ?_)
                  refine lv_goto (tgt := 228) hx hb dX3_isSame_298 (by decide) ?_
                  exact ih44 (k - (j9 + 1)) (j9 + 1) _ _ _ (by rw [hn45]; omega) ⟨rfl, (by omega), hE, lv_sub hl [0, 2, 3, 4, 5, 6, 7, 8, 9, 10, 11] rfl⟩
                · skip
                  refine lv_iconst (v := nI 1) hx hb dX3_isSame_288 (by decide) ?_
                  refine lv_goto (tgt := 293) hx hb dX3_isSame_289 (by decide) ?_
                  refine mv_iadd (z := nI ((mSkp v (nI c) (v (300 + c) 1) j9) + 1)) hx hb (nI_add _ _) dX3_isSame_293 ?_
                  refine mx_iast hx hb hN hE ((S_r (by omega) (by omega)).trans ((Q_r (by unfold jIs; omega)).trans (mU_s _ _ _))) (j := 5) rfl (by omega) (by decide) dX3_isSame_294 (fun H locs hE => ?_)
                  have hE : mE G (mA ad (Sy cy ad n k v (Si cy ad n k u x)) s.heap.size) s.heap ad1 (Sy cy ad1 n k v (Si cy ad1 n k u (mU x (60) (mI cy 6 (upd ((jT (v (300 + c) 1) (v (100 + c) 2) (nI (mFill (v (200 + c)) 16)) (mAdd (v (200 + c)) 16) (nI (mSof v (nI c) (j9 + 1))) (nI (mSkp v (nI c) (v (300 + c) 1) j9)))) 5 (nI ((mSkp v (nI c) (v (300 + c) 1) j9) + 1))))))) H locs := by rw [S_ux (by omega) (by omega), Q_ux (by unfold jIs; omega), jU_uu] at hE; exact hE
                  have e9 : mSkp v (nI c) (v (300 + c) 1) j9 + 1 = mSkp v (nI c) (v (300 + c) 1) (j9 + 1) := by show _ = mSkp v (nI c) (v (300 + c) 1) j9 + (if v (400 + j9) 0 = nI c ∧ v (400 + j9) 1 = v (300 + c) 1 then 1 else 0); rw [if_pos ⟨c56, c57⟩]
                  rw [jT_5, e9] at hE
                  refine lv_iinc (v := nI (j9 + 1)) (lv' := [(11, .int (nI (j9 + 1))), (12, .ref (ad1 (40 + j9))), (10, .int (nI k)), (9, .ref (ad1 6)), (7, .ref (ad1 60)), (6, .int (nI c)), (5, .int (mTot (fun i => v (300 + i)) c)), (4, .int (mChs v (c + 1))), (3, .int (nI (mDif v (c + 1)))), (2, .int (nI n)), (0, .ref (ad1 4)), (1, .ref (ad1 0))]) hx hb dX3_isSame_295 hl (k := 1) rfl (nI_add _ _) (by decide) rfl (fun ls hl => ?_)
                  refine lv_goto (tgt := 228) hx hb dX3_isSame_298 (by decide) ?_
                  exact ih44 (k - (j9 + 1)) (j9 + 1) _ _ _ (by rw [hn45]; omega) ⟨rfl, (by omega), hE, lv_sub hl [0, 2, 3, 4, 5, 6, 7, 8, 9, 10, 11] rfl⟩
        · skip
          refine lv_aload hx hb dX3_isSame_143 (lv_at hl 1 rfl) ?_
          refine lv_iconst (v := nI 2) hx hb dX3_isSame_145 (by decide) ?_
          refine lv_dup2_11 hx hb dX3_isSame_146 rfl rfl ?_
          refine mx_iald hx hb hN hE ((S_r (by omega) (by omega)).trans ((Q_r (by unfold jIs; omega)).trans (mU_s _ _ _))) (j := 2) rfl (by omega) (by decide) dX3_isSame_147 ?_
          refine lv_aload_n hx hb dX3_isSame_148 rfl (lv_at hl 7 rfl) ?_
          refine va_get (D := G) (ci := 3) (v := .ref (ad1 5)) (C := RX3) (T := TX3) (N := 3) hx hb hts hiX3 hown hN.1 (mE_P1 hE ((S_r (by omega) (by omega)).trans (Q_4))) 0 rfl rfl 0 (by decide) (hts (.fieldLink RX3 9 "SealedCupboardsLaw$Sim" "things" "[[I") (by decide +kernel)) (fun _ h9 => h9) rfl dX3_isSame_149 ?_
          refine lv_iload hx hb dX3_isSame_152 (lv_at hl 2 rfl) ?_
          refine mx_ralda hx hb hN hE ((S_r (by omega) (by omega)).trans (Q_5)) (j := c) rfl (by omega) (by omega) (Q_5at h_c) dX3_isSame_154 ?_
          refine lv_iload hx hb dX3_isSame_155 (lv_at hl 0 rfl) ?_
          refine mx_iald hx hb hN hE ((S_r (by omega) (by omega)).trans ((Q_te h_c rfl))) (j := d) rfl (by omega) (by decide) dX3_isSame_157 ?_
          obtain ⟨t9, ht9, et9⟩ := jV_t hJ h_c (show d < 16 by omega)
          have eu9 := (jV_u hJ h_c (show d < 16 by omega)).trans et9
          rw [eu9]
          refine lv_if_le (tgt := 165) hx hb dX3_isSame_158 (by decide) (fun c58 => ?_) (fun c58 => ?_)
          · skip
            have c58 := (mz_le (by omega)).mp c58
            refine lv_iconst (v := nI 0) hx hb dX3_isSame_165 (by decide) ?_
            refine mv_iadd (z := nI ((mFill (v (200 + c)) d) + 0)) hx hb (nI_add _ _) dX3_isSame_166 ?_
            refine mx_iast hx hb hN hE ((S_r (by omega) (by omega)).trans ((Q_r (by unfold jIs; omega)).trans (mU_s _ _ _))) (j := 2) rfl (by omega) (by decide) dX3_isSame_167 (fun H locs hE => ?_)
            have hE : mE G (mA ad (Sy cy ad n k v (Si cy ad n k u x)) s.heap.size) s.heap ad1 (Sy cy ad1 n k v (Si cy ad1 n k u (mU x (60) (mI cy 6 (upd ((jT (v (300 + c) 1) (v (100 + c) 2) (nI (mFill (v (200 + c)) d)) (mAdd (v (200 + c)) d) (nI 0) (nI 0))) 2 (nI ((mFill (v (200 + c)) d) + 0))))))) H locs := by rw [S_ux (by omega) (by omega), Q_ux (by unfold jIs; omega), jU_uu] at hE; exact hE
            have e9 : mFill (v (200 + c)) d + 0 = mFill (v (200 + c)) (d + 1) := by show _ = mFill (v (200 + c)) d + (if (v (200 + c)) d = 0 then 0 else 1); rw [et9, if_pos ((mz_eq (by omega)).mpr c58)]
            rw [jT_2, e9] at hE
            refine lv_aload hx hb dX3_isSame_168 (lv_at hl 1 rfl) ?_
            refine lv_iconst (v := nI 3) hx hb dX3_isSame_170 (by decide) ?_
            refine lv_dup2_11 hx hb dX3_isSame_171 rfl rfl ?_
            refine mx_iald hx hb hN hE ((S_r (by omega) (by omega)).trans ((Q_r (by unfold jIs; omega)).trans (mU_s _ _ _))) (j := 3) rfl (by omega) (by decide) dX3_isSame_172 ?_
            refine lv_aload_n hx hb dX3_isSame_173 rfl (lv_at hl 7 rfl) ?_
            refine va_get (D := G) (ci := 3) (v := .ref (ad1 5)) (C := RX3) (T := TX3) (N := 3) hx hb hts hiX3 hown hN.1 (mE_P1 hE ((S_r (by omega) (by omega)).trans (Q_4))) 0 rfl rfl 0 (by decide) (hts (.fieldLink RX3 9 "SealedCupboardsLaw$Sim" "things" "[[I") (by decide +kernel)) (fun _ h9 => h9) rfl dX3_isSame_174 ?_
            refine lv_iload hx hb dX3_isSame_177 (lv_at hl 2 rfl) ?_
            refine mx_ralda hx hb hN hE ((S_r (by omega) (by omega)).trans (Q_5)) (j := c) rfl (by omega) (by omega) (Q_5at h_c) dX3_isSame_179 ?_
            refine lv_iload hx hb dX3_isSame_180 (lv_at hl 0 rfl) ?_
            refine mx_iald hx hb hN hE ((S_r (by omega) (by omega)).trans ((Q_te h_c rfl))) (j := d) rfl (by omega) (by decide) dX3_isSame_182 ?_
            rw [jV_u hJ h_c (show d < 16 by omega)]
            refine mv_iadd (z := (mAdd (v (200 + c)) d) + (v (200 + c) d)) hx hb rfl dX3_isSame_183 ?_
            refine mx_iast hx hb hN hE ((S_r (by omega) (by omega)).trans ((Q_r (by unfold jIs; omega)).trans (mU_s _ _ _))) (j := 3) rfl (by omega) (by decide) dX3_isSame_184 (fun H locs hE => ?_)
            have hE : mE G (mA ad (Sy cy ad n k v (Si cy ad n k u x)) s.heap.size) s.heap ad1 (Sy cy ad1 n k v (Si cy ad1 n k u (mU x (60) (mI cy 6 (upd ((jT (v (300 + c) 1) (v (100 + c) 2) (nI (mFill (v (200 + c)) (d + 1))) (mAdd (v (200 + c)) d) (nI 0) (nI 0))) 3 ((mAdd (v (200 + c)) d) + (v (200 + c) d))))))) H locs := by rw [S_ux (by omega) (by omega), Q_ux (by unfold jIs; omega), jU_uu] at hE; exact hE
            rw [jT_3] at hE
            have hE : mE G (mA ad (Sy cy ad n k v (Si cy ad n k u x)) s.heap.size) s.heap ad1 (Sy cy ad1 n k v (Si cy ad1 n k u (mU x (60) (mI cy 6 (jT (v (300 + c) 1) (v (100 + c) 2) (nI (mFill (v (200 + c)) (d + 1))) (mAdd (v (200 + c)) (d + 1)) (nI 0) (nI 0)))))) H locs := hE
            refine lv_aload_n hx hb dX3_isSame_185 rfl (lv_at hl 8 rfl) ?_
            refine lv_iload hx hb dX3_isSame_186 (lv_at hl 2 rfl) ?_
            refine lv_iload hx hb dX3_isSame_188 (lv_at hl 0 rfl) ?_
            refine va_calli (va_runV (As := [.int (nI c), .int (nI d)]) (rest := []) ⟨hx, hb, hml, hown, hts⟩ (c_X2_thing l G cy ad1 n k v (Si cy ad1 n k u (mU x (60) (mI cy 6 (jT (v (300 + c) 1) (v (100 + c) 2) (nI (mFill (v (200 + c)) (d + 1))) (mAdd (v (200 + c)) (d + 1)) (nI 0) (nI 0))))) hn hk _ c h_c d (by omega)) (cwV 2 hts gX3_isSame_X2_thing rfl rfl rfl (by decide +kernel) ⟨Nat.le_of_ble_eq_true rfl, Nat.le_of_ble_eq_true rfl⟩) (mP_V (r := (RX2, TX2, 5)) hN hE S_0 rfl) rfl rfl hl.1 rfl (lv_room (Nat.le_of_ble_eq_true rfl)) dX3_isSame_190 ⟨(by show _ ≤ 26; omega), (by show _ ≤ 116; omega)⟩) hE.2.2.2 (fun q _ h => mE_A hE q h) (mE_A hE) (fun r uq tq H locs ht hvm hw hB hz1 hk1 hS => ?_)
            obtain ⟨rfl, rfl⟩ := hw
            have hE : mE G (mA ad (Sy cy ad n k v (Si cy ad n k u x)) s.heap.size) s.heap ad1 (Sy cy ad1 n k v (Si cy ad1 n k u (mU x (60) (mI cy 6 (jT (v (300 + c) 1) (v (100 + c) 2) (nI (mFill (v (200 + c)) (d + 1))) (mAdd (v (200 + c)) (d + 1)) (nI 0) (nI 0)))))) H locs := mE_call hE hB ht hS
            refine lv_aload_n hx hb dX3_isSame_193 rfl (lv_at hl 7 rfl) ?_
            refine va_get (D := G) (ci := 3) (v := .ref (ad1 5)) (C := RX3) (T := TX3) (N := 3) hx hb hts hiX3 hown hN.1 (mE_P1 hE ((S_r (by omega) (by omega)).trans (Q_4))) 0 rfl rfl 0 (by decide) (hts (.fieldLink RX3 9 "SealedCupboardsLaw$Sim" "things" "[[I") (by decide +kernel)) (fun _ h9 => h9) rfl dX3_isSame_194 ?_
            refine lv_iload hx hb dX3_isSame_197 (lv_at hl 2 rfl) ?_
            refine mx_ralda hx hb hN hE ((S_r (by omega) (by omega)).trans (Q_5)) (j := c) rfl (by omega) (by omega) (Q_5at h_c) dX3_isSame_199 ?_
            refine lv_iload hx hb dX3_isSame_200 (lv_at hl 0 rfl) ?_
            refine mx_iald hx hb hN hE ((S_r (by omega) (by omega)).trans ((Q_te h_c rfl))) (j := d) rfl (by omega) (by decide) dX3_isSame_202 ?_
            rw [jV_u hJ h_c (show d < 16 by omega)]
            refine lv_icmp_eq (tgt := 208) hx hb dX3_isSame_203 (by decide) (fun c59 => ?_) (fun c59 => ?_)
            · skip
              refine lv_iinc (v := nI (d + 1)) (lv' := [(9, .int (nI (d + 1))), (7, .ref (ad1 60)), (6, .int (nI c)), (5, .int (mTot (fun i => v (300 + i)) c)), (4, .int (mChs v (c + 1))), (3, .int (nI (mDif v (c + 1)))), (2, .int (nI n)), (0, .ref (ad1 4)), (1, .ref (ad1 0))]) hx hb dX3_isSame_208 hl (k := 0) rfl (nI_add _ _) (by decide) rfl (fun ls hl => ?_)
              refine lv_goto (tgt := 136) hx hb dX3_isSame_211 (by decide) ?_
              exact ih41 (16 - (d + 1)) (d + 1) _ _ _ (by rw [hn42]; omega) ⟨rfl, (by omega), hE, lv_sub hl [0, 1, 2, 3, 4, 5, 6, 7, 8] rfl⟩
            · skip
              exact absurd rfl c59
          · skip
            have c58 : ¬ t9 = 0 := fun h9 => c58 ((mz_le (by omega)).mpr h9)
            refine lv_iconst (v := nI 1) hx hb dX3_isSame_161 (by decide) ?_
            refine lv_goto (tgt := 166) hx hb dX3_isSame_162 (by decide) ?_
            refine mv_iadd (z := nI ((mFill (v (200 + c)) d) + 1)) hx hb (nI_add _ _) dX3_isSame_166 ?_
            refine mx_iast hx hb hN hE ((S_r (by omega) (by omega)).trans ((Q_r (by unfold jIs; omega)).trans (mU_s _ _ _))) (j := 2) rfl (by omega) (by decide) dX3_isSame_167 (fun H locs hE => ?_)
            have hE : mE G (mA ad (Sy cy ad n k v (Si cy ad n k u x)) s.heap.size) s.heap ad1 (Sy cy ad1 n k v (Si cy ad1 n k u (mU x (60) (mI cy 6 (upd ((jT (v (300 + c) 1) (v (100 + c) 2) (nI (mFill (v (200 + c)) d)) (mAdd (v (200 + c)) d) (nI 0) (nI 0))) 2 (nI ((mFill (v (200 + c)) d) + 1))))))) H locs := by rw [S_ux (by omega) (by omega), Q_ux (by unfold jIs; omega), jU_uu] at hE; exact hE
            have e9 : mFill (v (200 + c)) d + 1 = mFill (v (200 + c)) (d + 1) := by show _ = mFill (v (200 + c)) d + (if (v (200 + c)) d = 0 then 0 else 1); rw [et9, if_neg (fun h9 => c58 ((mz_eq (by omega)).mp h9))]
            rw [jT_2, e9] at hE
            refine lv_aload hx hb dX3_isSame_168 (lv_at hl 1 rfl) ?_
            refine lv_iconst (v := nI 3) hx hb dX3_isSame_170 (by decide) ?_
            refine lv_dup2_11 hx hb dX3_isSame_171 rfl rfl ?_
            refine mx_iald hx hb hN hE ((S_r (by omega) (by omega)).trans ((Q_r (by unfold jIs; omega)).trans (mU_s _ _ _))) (j := 3) rfl (by omega) (by decide) dX3_isSame_172 ?_
            refine lv_aload_n hx hb dX3_isSame_173 rfl (lv_at hl 7 rfl) ?_
            refine va_get (D := G) (ci := 3) (v := .ref (ad1 5)) (C := RX3) (T := TX3) (N := 3) hx hb hts hiX3 hown hN.1 (mE_P1 hE ((S_r (by omega) (by omega)).trans (Q_4))) 0 rfl rfl 0 (by decide) (hts (.fieldLink RX3 9 "SealedCupboardsLaw$Sim" "things" "[[I") (by decide +kernel)) (fun _ h9 => h9) rfl dX3_isSame_174 ?_
            refine lv_iload hx hb dX3_isSame_177 (lv_at hl 2 rfl) ?_
            refine mx_ralda hx hb hN hE ((S_r (by omega) (by omega)).trans (Q_5)) (j := c) rfl (by omega) (by omega) (Q_5at h_c) dX3_isSame_179 ?_
            refine lv_iload hx hb dX3_isSame_180 (lv_at hl 0 rfl) ?_
            refine mx_iald hx hb hN hE ((S_r (by omega) (by omega)).trans ((Q_te h_c rfl))) (j := d) rfl (by omega) (by decide) dX3_isSame_182 ?_
            rw [jV_u hJ h_c (show d < 16 by omega)]
            refine mv_iadd (z := (mAdd (v (200 + c)) d) + (v (200 + c) d)) hx hb rfl dX3_isSame_183 ?_
            refine mx_iast hx hb hN hE ((S_r (by omega) (by omega)).trans ((Q_r (by unfold jIs; omega)).trans (mU_s _ _ _))) (j := 3) rfl (by omega) (by decide) dX3_isSame_184 (fun H locs hE => ?_)
            have hE : mE G (mA ad (Sy cy ad n k v (Si cy ad n k u x)) s.heap.size) s.heap ad1 (Sy cy ad1 n k v (Si cy ad1 n k u (mU x (60) (mI cy 6 (upd ((jT (v (300 + c) 1) (v (100 + c) 2) (nI (mFill (v (200 + c)) (d + 1))) (mAdd (v (200 + c)) d) (nI 0) (nI 0))) 3 ((mAdd (v (200 + c)) d) + (v (200 + c) d))))))) H locs := by rw [S_ux (by omega) (by omega), Q_ux (by unfold jIs; omega), jU_uu] at hE; exact hE
            rw [jT_3] at hE
            have hE : mE G (mA ad (Sy cy ad n k v (Si cy ad n k u x)) s.heap.size) s.heap ad1 (Sy cy ad1 n k v (Si cy ad1 n k u (mU x (60) (mI cy 6 (jT (v (300 + c) 1) (v (100 + c) 2) (nI (mFill (v (200 + c)) (d + 1))) (mAdd (v (200 + c)) (d + 1)) (nI 0) (nI 0)))))) H locs := hE
            refine lv_aload_n hx hb dX3_isSame_185 rfl (lv_at hl 8 rfl) ?_
            refine lv_iload hx hb dX3_isSame_186 (lv_at hl 2 rfl) ?_
            refine lv_iload hx hb dX3_isSame_188 (lv_at hl 0 rfl) ?_
            refine va_calli (va_runV (As := [.int (nI c), .int (nI d)]) (rest := []) ⟨hx, hb, hml, hown, hts⟩ (c_X2_thing l G cy ad1 n k v (Si cy ad1 n k u (mU x (60) (mI cy 6 (jT (v (300 + c) 1) (v (100 + c) 2) (nI (mFill (v (200 + c)) (d + 1))) (mAdd (v (200 + c)) (d + 1)) (nI 0) (nI 0))))) hn hk _ c h_c d (by omega)) (cwV 2 hts gX3_isSame_X2_thing rfl rfl rfl (by decide +kernel) ⟨Nat.le_of_ble_eq_true rfl, Nat.le_of_ble_eq_true rfl⟩) (mP_V (r := (RX2, TX2, 5)) hN hE S_0 rfl) rfl rfl hl.1 rfl (lv_room (Nat.le_of_ble_eq_true rfl)) dX3_isSame_190 ⟨(by show _ ≤ 26; omega), (by show _ ≤ 116; omega)⟩) hE.2.2.2 (fun q _ h => mE_A hE q h) (mE_A hE) (fun r uq tq H locs ht hvm hw hB hz1 hk1 hS => ?_)
            obtain ⟨rfl, rfl⟩ := hw
            have hE : mE G (mA ad (Sy cy ad n k v (Si cy ad n k u x)) s.heap.size) s.heap ad1 (Sy cy ad1 n k v (Si cy ad1 n k u (mU x (60) (mI cy 6 (jT (v (300 + c) 1) (v (100 + c) 2) (nI (mFill (v (200 + c)) (d + 1))) (mAdd (v (200 + c)) (d + 1)) (nI 0) (nI 0)))))) H locs := mE_call hE hB ht hS
            refine lv_aload_n hx hb dX3_isSame_193 rfl (lv_at hl 7 rfl) ?_
            refine va_get (D := G) (ci := 3) (v := .ref (ad1 5)) (C := RX3) (T := TX3) (N := 3) hx hb hts hiX3 hown hN.1 (mE_P1 hE ((S_r (by omega) (by omega)).trans (Q_4))) 0 rfl rfl 0 (by decide) (hts (.fieldLink RX3 9 "SealedCupboardsLaw$Sim" "things" "[[I") (by decide +kernel)) (fun _ h9 => h9) rfl dX3_isSame_194 ?_
            refine lv_iload hx hb dX3_isSame_197 (lv_at hl 2 rfl) ?_
            refine mx_ralda hx hb hN hE ((S_r (by omega) (by omega)).trans (Q_5)) (j := c) rfl (by omega) (by omega) (Q_5at h_c) dX3_isSame_199 ?_
            refine lv_iload hx hb dX3_isSame_200 (lv_at hl 0 rfl) ?_
            refine mx_iald hx hb hN hE ((S_r (by omega) (by omega)).trans ((Q_te h_c rfl))) (j := d) rfl (by omega) (by decide) dX3_isSame_202 ?_
            rw [jV_u hJ h_c (show d < 16 by omega)]
            refine lv_icmp_eq (tgt := 208) hx hb dX3_isSame_203 (by decide) (fun c60 => ?_) (fun c60 => ?_)
            · skip
              refine lv_iinc (v := nI (d + 1)) (lv' := [(9, .int (nI (d + 1))), (7, .ref (ad1 60)), (6, .int (nI c)), (5, .int (mTot (fun i => v (300 + i)) c)), (4, .int (mChs v (c + 1))), (3, .int (nI (mDif v (c + 1)))), (2, .int (nI n)), (0, .ref (ad1 4)), (1, .ref (ad1 0))]) hx hb dX3_isSame_208 hl (k := 0) rfl (nI_add _ _) (by decide) rfl (fun ls hl => ?_)
              refine lv_goto (tgt := 136) hx hb dX3_isSame_211 (by decide) ?_
              exact ih41 (16 - (d + 1)) (d + 1) _ _ _ (by rw [hn42]; omega) ⟨rfl, (by omega), hE, lv_sub hl [0, 1, 2, 3, 4, 5, 6, 7, 8] rfl⟩
            · skip
              exact absurd rfl c60
    · skip
      refine lv_iload hx hb dX3_isSame_77 (lv_at hl 1 rfl) ?_
      refine lv_if_eq (tgt := 99) hx hb dX3_isSame_79 (by decide) (fun c61 => ?_) (fun c61 => ?_)
      · skip
        have c61 := mb_0.mp c61
        refine lv_iconst (v := nI 0) hx hb dX3_isSame_99 (by decide) ?_
        refine lv_istore (lv' := [(8, .int (nI 0)), (9, .int (nI b)), (7, .ref (ad1 60)), (6, .int (nI c)), (5, .int (mTot (fun i => v (300 + i)) c)), (4, .int (mChs v c)), (3, .int (nI (mDif v c))), (2, .int (nI n)), (0, .ref (ad1 4)), (1, .ref (ad1 0))]) hx hb dX3_isSame_100 hl (by decide) rfl (fun ls hl => ?_)
        have e8 : nI 0 = mb (¬ mHas v (v (300 + c) 1) (b + 1) = true) := (mb_f (fun h9 => c61 (fun h8 => h9 (jHas_l h8)))).symm
        rw [e8] at hl
        refine lv_iinc (v := nI (b + 1)) (lv' := [(9, .int (nI (b + 1))), (8, .int (mb (¬ mHas v (v (300 + c) 1) (b + 1) = true))), (7, .ref (ad1 60)), (6, .int (nI c)), (5, .int (mTot (fun i => v (300 + i)) c)), (4, .int (mChs v c)), (3, .int (nI (mDif v c))), (2, .int (nI n)), (0, .ref (ad1 4)), (1, .ref (ad1 0))]) hx hb dX3_isSame_102 hl (k := 1) rfl (nI_add _ _) (by decide) rfl (fun ls hl => ?_)
        refine lv_goto (tgt := 70) hx hb dX3_isSame_105 (by decide) ?_
        exact ih17 (c - (b + 1)) (b + 1) _ _ _ (by rw [hn18]; omega) ⟨rfl, (by omega), hE, lv_sub hl [0, 1, 2, 3, 4, 5, 6, 7, 8, 9] rfl⟩
      · skip
        have c61 := Classical.not_not.mp (fun h9 => c61 (mb_0.mpr h9))
        have h_b : b < n := by omega
        refine lv_aload_n hx hb dX3_isSame_82 rfl (lv_at hl 8 rfl) ?_
        refine lv_iload hx hb dX3_isSame_83 (lv_at hl 0 rfl) ?_
        refine va_calli (va_runV (As := [.int (nI b)]) (rest := []) ⟨hx, hb, hml, hown, hts⟩ (b_X3_root l G cy ad1 n k v n k u (mU x (60) (mI cy 6 (jT (v (300 + c) 1) (v (100 + c) 2) (nI 0) (nI 0) (nI 0) (nI 0)))) hn hk _ b h_b) (cwV 1 hts gX3_isSame_X3_root rfl rfl rfl (by decide +kernel) ⟨Nat.le_of_ble_eq_true rfl, Nat.le_of_ble_eq_true rfl⟩) (mP_V (r := (RX3, TX3, 3)) hN hE ((S_r (by omega) (by omega)).trans (Q_4)) rfl) rfl rfl hl.1 rfl (lv_room (Nat.le_of_ble_eq_true rfl)) dX3_isSame_85 ⟨(by show _ ≤ 26; omega), (by show _ ≤ 116; omega)⟩) hE.2.2.2 (fun q _ h => mE_A hE q h) (mE_A hE) (fun r uq tq H locs ht hvm hw hB hz1 hk1 hS => ?_)
        obtain ⟨rfl, rfl⟩ := hw
        have hE : mE G (mA ad (Sy cy ad n k v (Si cy ad n k u x)) s.heap.size) s.heap ad1 (Sy cy ad1 n k v (Si cy ad1 n k u (mU x (60) (mI cy 6 (jT (v (300 + c) 1) (v (100 + c) 2) (nI 0) (nI 0) (nI 0) (nI 0)))))) H locs := mE_call hE hB ht hS
        rw [← jV_S hJ h_b 1 (by decide) (by decide)]
        refine lv_aload hx hb dX3_isSame_88 (lv_at hl 2 rfl) ?_
        refine lv_iconst (v := nI 0) hx hb dX3_isSame_90 (by decide) ?_
        refine mx_iald hx hb hN hE ((S_r (by omega) (by omega)).trans ((Q_r (by unfold jIs; omega)).trans (mU_s _ _ _))) (j := 0) rfl (by omega) (by decide) dX3_isSame_91 ?_
        refine lv_icmp_eq (tgt := 99) hx hb dX3_isSame_92 (by decide) (fun c62 => ?_) (fun c62 => ?_)
        · skip
          refine lv_iconst (v := nI 0) hx hb dX3_isSame_99 (by decide) ?_
          refine lv_istore (lv' := [(8, .int (nI 0)), (9, .int (nI b)), (7, .ref (ad1 60)), (6, .int (nI c)), (5, .int (mTot (fun i => v (300 + i)) c)), (4, .int (mChs v c)), (3, .int (nI (mDif v c))), (2, .int (nI n)), (0, .ref (ad1 4)), (1, .ref (ad1 0))]) hx hb dX3_isSame_100 hl (by decide) rfl (fun ls hl => ?_)
          have e8 : nI 0 = mb (¬ mHas v (v (300 + c) 1) (b + 1) = true) := (mb_f (fun h9 => h9 (jHas_r c62))).symm
          rw [e8] at hl
          refine lv_iinc (v := nI (b + 1)) (lv' := [(9, .int (nI (b + 1))), (8, .int (mb (¬ mHas v (v (300 + c) 1) (b + 1) = true))), (7, .ref (ad1 60)), (6, .int (nI c)), (5, .int (mTot (fun i => v (300 + i)) c)), (4, .int (mChs v c)), (3, .int (nI (mDif v c))), (2, .int (nI n)), (0, .ref (ad1 4)), (1, .ref (ad1 0))]) hx hb dX3_isSame_102 hl (k := 1) rfl (nI_add _ _) (by decide) rfl (fun ls hl => ?_)
          refine lv_goto (tgt := 70) hx hb dX3_isSame_105 (by decide) ?_
          exact ih17 (c - (b + 1)) (b + 1) _ _ _ (by rw [hn18]; omega) ⟨rfl, (by omega), hE, lv_sub hl [0, 1, 2, 3, 4, 5, 6, 7, 8, 9] rfl⟩
        · skip
          refine lv_iconst (v := nI 1) hx hb dX3_isSame_95 (by decide) ?_
          refine lv_goto (tgt := 100) hx hb dX3_isSame_96 (by decide) ?_
          refine lv_istore (lv' := [(8, .int (nI 1)), (9, .int (nI b)), (7, .ref (ad1 60)), (6, .int (nI c)), (5, .int (mTot (fun i => v (300 + i)) c)), (4, .int (mChs v c)), (3, .int (nI (mDif v c))), (2, .int (nI n)), (0, .ref (ad1 4)), (1, .ref (ad1 0))]) hx hb dX3_isSame_100 hl (by decide) rfl (fun ls hl => ?_)
          have e8 : nI 1 = mb (¬ mHas v (v (300 + c) 1) (b + 1) = true) := (mb_t (jHas_n c61 c62)).symm
          rw [e8] at hl
          refine lv_iinc (v := nI (b + 1)) (lv' := [(9, .int (nI (b + 1))), (8, .int (mb (¬ mHas v (v (300 + c) 1) (b + 1) = true))), (7, .ref (ad1 60)), (6, .int (nI c)), (5, .int (mTot (fun i => v (300 + i)) c)), (4, .int (mChs v c)), (3, .int (nI (mDif v c))), (2, .int (nI n)), (0, .ref (ad1 4)), (1, .ref (ad1 0))]) hx hb dX3_isSame_102 hl (k := 1) rfl (nI_add _ _) (by decide) rfl (fun ls hl => ?_)
          refine lv_goto (tgt := 70) hx hb dX3_isSame_105 (by decide) ?_
          exact ih17 (c - (b + 1)) (b + 1) _ _ _ (by rw [hn18]; omega) ⟨rfl, (by omega), hE, lv_sub hl [0, 1, 2, 3, 4, 5, 6, 7, 8, 9] rfl⟩
