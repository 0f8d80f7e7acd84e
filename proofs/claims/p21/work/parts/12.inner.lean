set_option maxHeartbeats 4000000 in
set_option maxRecDepth 100000 in
/-- the sums over a drawer, made anew -/
theorem c_X2_sumUp (l : Launch) (G : va_G) (cy : Nat → ClassId) (ad : Nat → Nat) (n k : Nat) (v : Nat → Nat → Int32) (o : mC) (hn : n ≤ 6) (hk : k ≤ 20) (sz : Nat) (w d : Nat) (t : Int32) (hw : ∀ g, sy cy ad n k o w g = some (mI cy 32 g)) (hd : d < 16) : mMv l yX2_sumUp wsX2_sumUp ({ frames := 8, cells := 0, slots := 0, locals := 140 }) G cy ad (Sy cy ad n k v o) sz [.ref (ad w), .int (nI d), .int t] 0 0 (fun u => u = (ad, Sy cy ad n k (va_up v w (mSumUp (v w) d t)) o)) := by
  refine Met.ofW (cc := cX2_sumUp) (maxL := 4) (ret := none) (by decide) rfl ?_
  intro p e s m args below meth c s₁ B hml hv
  obtain ⟨rfl, hv⟩ := hv
  have hsz := hv.1
  subst hsz
  have hN := hv.2.2
  have hE := mP_E hv
  have hx := B.exec
  have hb := B.bytes
  have hr := B.returns
  have hts := atoms_spec (ws := wsX2_sumUp) B.pre
  have hown : s.vm.findClass RX2 = some m.cls := findClass_of_methodNamed B.named
  have hlocks := B.notSynchronized
  have hl := lv_entry ([.ref (ad w), .int (nI d), .int t]) (n := 4) (Nat.le_of_ble_eq_true rfl)
  rw [lg_entry_eq]
  generalize (lg_sl ([.ref (ad w), .int (nI d), .int t]) ++ List.replicate (4 - (lg_sl ([.ref (ad w), .int (nI d), .int t])).length) Slot.unset).toArray = ls at hl ⊢
  have hl : lv_has ls 4 [(0, .ref (ad w)), (1, .int (nI d)), (2, .int t)] := hl
  refine lv_aload_n hx hb dX2_sumUp_0 rfl (lv_at hl 0 rfl) ?_
  refine lv_bipush (v := nI 16) hx hb dX2_sumUp_1 (by decide) ?_
  refine lv_iload_n hx hb dX2_sumUp_3 rfl (lv_at hl 1 rfl) ?_
  refine mv_iadd (z := nI (16 + d)) hx hb (nI_add _ _) dX2_sumUp_4 ?_
  refine lv_iload_n hx hb dX2_sumUp_5 rfl (lv_at hl 1 rfl) ?_
  refine lv_iload_n hx hb dX2_sumUp_6 rfl (lv_at hl 2 rfl) ?_
  refine va_calli (va_runS (As := [.int (nI d), .int t]) (rest := [.int (nI (16 + d)), .ref (ad w)]) ⟨hx, hb, hml, hown, hts⟩ (c_X2_sumOfThing l G cy ad (Sy cy ad n k v o) _ (nI d) t) (va_cwS 2 hts gX2_sumUp_X2_sumOfThing rfl rfl rfl (by decide +kernel) ⟨Nat.le_of_ble_eq_true rfl, Nat.le_of_ble_eq_true rfl⟩) (mP_S hN hE) rfl rfl hl.1 rfl (lv_room (Nat.le_of_ble_eq_true rfl)) dX2_sumUp_7 ⟨Nat.le_of_ble_eq_true rfl, Nat.le_of_ble_eq_true rfl⟩) hE.2.2.2 (fun q _ h => mE_A hE q h) (mE_A hE) (fun r uq tq H locs ht hvm hw hB hz1 hk1 hS => ?_)
  obtain ⟨rfl, rfl⟩ := hw
  have hE : mE G (mA ad (Sy cy ad n k v o) s.heap.size) s.heap ad (Sy cy ad n k v o) H locs := mE_call hE hB ht hS
  refine mx_iast hx hb hN hE (S_w hw rfl) (j := 16 + d) rfl (by omega) (by decide) dX2_sumUp_10 (fun H locs hE => ?_)
  obtain ⟨kv1, hkv1⟩ : ∃ y99, y99 = va_up v w (upd (v w) (16 + d) (mLeaf (nI d) t)) := ⟨_, rfl⟩
  have hE : mE G (mA ad (Sy cy ad n k v o) s.heap.size) s.heap ad (Sy cy ad n k kv1 o) H locs := by rw [hkv1]; exact (S_up (hw _)) ▸ hE
  have ke2 : kv1 w = (upd (v w) (16 + d) (mLeaf (nI d) t)) := by rw [hkv1, va_up_s]
  refine lv_bipush (v := nI 16) hx hb dX2_sumUp_11 (by decide) ?_
  refine lv_iload_n hx hb dX2_sumUp_13 rfl (lv_at hl 1 rfl) ?_
  refine mv_iadd (z := nI (16 + d)) hx hb (nI_add _ _) dX2_sumUp_14 ?_
  refine lv_iconst (v := nI 2) hx hb dX2_sumUp_15 (by decide) ?_
  refine mv_idiv (z := nI ((16 + d) / 2)) hx hb (by decide) (pk_div (by omega) (by omega) (by omega)) dX2_sumUp_16 ?_
  refine lv_istore_n (lv' := [(3, .int (nI ((16 + d) / 2))), (0, .ref (ad w)), (1, .int (nI d)), (2, .int t)]) hx hb dX2_sumUp_17 rfl hl (by decide) rfl (fun ls hl => ?_)
  refine mx_loop (β := Nat × (Nat → Nat → Int32)) (fun n9 (b : Nat × (Nat → Nat → Int32)) H locs ls => (fun (q : Nat) (v9 : Nat → Nat → Int32) => n9 = q ∧ (∃ (f : Nat) (g : Nat → Int32), q < f ∧ q < 16 ∧ v9 = va_up v w g ∧ mUpL f q g = mSumUp (v w) d t) ∧ mE G (mA ad (Sy cy ad n k v o) s.heap.size) s.heap ad (Sy cy ad n k v9 o) H locs ∧ lv_has ls 4 [(3, .int (nI q)), (0, .ref (ad w)), (1, .int (nI d)), (2, .int t)]) (b.1) (b.2)) ?_ ((16 + d) / 2) ((16 + d) / 2, kv1) _ _ _ ⟨rfl, ⟨32, _, by omega, by omega, hkv1, rfl⟩, hE, lv_sub hl [0, 1, 2, 3] rfl⟩
  intro n9 b H locs ls hI ih3
  obtain ⟨q, v9⟩ := b
  obtain ⟨hn4, ⟨f, g, hf, hq, rfl, hu⟩, hE, hl⟩ := hI
  obtain ⟨f, rfl⟩ : ∃ f0, f = f0 + 1 := ⟨f - 1, by omega⟩
  have hE : mE G (mA ad (Sy cy ad n k v o) s.heap.size) s.heap ad (Sy cy ad n k (va_up v w g) o) H locs := hE
  have hl : lv_has ls 4 [(3, .int (nI q)), (0, .ref (ad w)), (1, .int (nI d)), (2, .int t)] := hl
  refine lv_iload_n hx hb dX2_sumUp_18 rfl (lv_at hl 0 rfl) ?_
  refine lv_iconst (v := nI 1) hx hb dX2_sumUp_19 (by decide) ?_
  refine mv_lt (tgt := 49) hx hb (by omega) (by omega) dX2_sumUp_20 (by decide) (fun c5 => ?_) (fun c5 => ?_)
  · skip
    rw [mUpL, if_pos c5] at hu
    exact mx_vret hx hb hr hE hlocks (by rw [← hu]) dX2_sumUp_49
  · skip
    rw [mUpL, if_neg (by omega)] at hu
    refine lv_aload_n hx hb dX2_sumUp_23 rfl (lv_at hl 1 rfl) ?_
    refine lv_iload_n hx hb dX2_sumUp_24 rfl (lv_at hl 0 rfl) ?_
    refine lv_aload_n hx hb dX2_sumUp_25 rfl (lv_at hl 1 rfl) ?_
    refine lv_iconst (v := nI 2) hx hb dX2_sumUp_26 (by decide) ?_
    refine lv_iload_n hx hb dX2_sumUp_27 rfl (lv_at hl 0 rfl) ?_
    refine mv_imul (z := nI (2 * q)) hx hb (pk_mul _ _) dX2_sumUp_28 ?_
    refine mx_iald hx hb hN hE (S_w hw (va_up_s v w g)) (j := 2 * q) rfl (by omega) (by decide) dX2_sumUp_29 ?_
    refine lv_aload_n hx hb dX2_sumUp_30 rfl (lv_at hl 1 rfl) ?_
    refine lv_iconst (v := nI 2) hx hb dX2_sumUp_31 (by decide) ?_
    refine lv_iload_n hx hb dX2_sumUp_32 rfl (lv_at hl 0 rfl) ?_
    refine mv_imul (z := nI (2 * q)) hx hb (pk_mul _ _) dX2_sumUp_33 ?_
    refine lv_iconst (v := nI 1) hx hb dX2_sumUp_34 (by decide) ?_
    refine mv_iadd (z := nI ((2 * q) + 1)) hx hb (nI_add _ _) dX2_sumUp_35 ?_
    refine mx_iald hx hb hN hE (S_w hw (va_up_s v w g)) (j := (2 * q) + 1) rfl (by omega) (by decide) dX2_sumUp_36 ?_
    refine lv_iload_n hx hb dX2_sumUp_37 rfl (lv_at hl 0 rfl) ?_
    refine va_calli (va_runS (As := [.int (g (2 * q)), .int (g ((2 * q) + 1)), .int (nI q)]) (rest := [.int (nI q), .ref (ad w)]) ⟨hx, hb, hml, hown, hts⟩ (c_X2_sumOfSums l G cy ad (Sy cy ad n k (va_up v w g) o) _ (g (2 * q)) (g ((2 * q) + 1)) (nI q)) (va_cwS 3 hts gX2_sumUp_X2_sumOfSums rfl rfl rfl (by decide +kernel) ⟨Nat.le_of_ble_eq_true rfl, Nat.le_of_ble_eq_true rfl⟩) (mP_S hN hE) rfl rfl hl.1 rfl (lv_room (Nat.le_of_ble_eq_true rfl)) dX2_sumUp_38 ⟨Nat.le_of_ble_eq_true rfl, Nat.le_of_ble_eq_true rfl⟩) hE.2.2.2 (fun q _ h => mE_A hE q h) (mE_A hE) (fun r uq tq H locs ht hvm hw hB hz1 hk1 hS => ?_)
    obtain ⟨rfl, rfl⟩ := hw
    have hE : mE G (mA ad (Sy cy ad n k v o) s.heap.size) s.heap ad (Sy cy ad n k (va_up v w g) o) H locs := mE_call hE hB ht hS
    refine mx_iast hx hb hN hE (S_w hw (va_up_s v w g)) (j := q) rfl (by omega) (by decide) dX2_sumUp_41 (fun H locs hE => ?_)
    obtain ⟨kv6, hkv6⟩ : ∃ y99, y99 = va_up (va_up v w g) w (upd (g) q (mJoin (g (2 * q)) (g ((2 * q) + 1)) (nI q))) := ⟨_, rfl⟩
    have hE : mE G (mA ad (Sy cy ad n k v o) s.heap.size) s.heap ad (Sy cy ad n k kv6 o) H locs := by rw [hkv6]; exact (S_up (hw _)) ▸ hE
    have ke7 : kv6 w = (upd (g) q (mJoin (g (2 * q)) (g ((2 * q) + 1)) (nI q))) := by rw [hkv6, va_up_s]
    refine lv_iload_n hx hb dX2_sumUp_42 rfl (lv_at hl 0 rfl) ?_
    refine lv_iconst (v := nI 2) hx hb dX2_sumUp_43 (by decide) ?_
    refine mv_idiv (z := nI (q / 2)) hx hb (by decide) (pk_div (by omega) (by omega) (by omega)) dX2_sumUp_44 ?_
    refine lv_istore_n (lv' := [(3, .int (nI (q / 2))), (0, .ref (ad w)), (1, .int (nI d)), (2, .int t)]) hx hb dX2_sumUp_45 rfl hl (by decide) rfl (fun ls hl => ?_)
    refine lv_goto (tgt := 18) hx hb dX2_sumUp_46 (by decide) ?_
    exact ih3 (q / 2) (q / 2, kv6) _ _ _ (by rw [hn4]; omega) ⟨rfl, ⟨f, upd g q (mJoin (g (2 * q)) (g (2 * q + 1)) (nI q)), by omega, by omega, by rw [hkv6, va_upup], hu⟩, hE, lv_sub hl [0, 1, 2, 3] rfl⟩

set_option maxHeartbeats 4000000 in
set_option maxRecDepth 100000 in
/-- a thing comes into a drawer -/
theorem c_X0_lay (l : Launch) (G : va_G) (cy : Nat → ClassId) (ad : Nat → Nat) (n k : Nat) (v : Nat → Nat → Int32) (o : mC) (hn : n ≤ 6) (hk : k ≤ 20) (sz : Nat) (i d : Nat) (t : Int32) (h_i : i < n) (hd : d < 16) : mMv l yX0_lay wsX0_lay ({ frames := 9, cells := 0, slots := 0, locals := 180 }) G cy ad (Sy cy ad n k v o) sz [.ref (ad (100 + i)), .int (nI d), .int t] 0 0 (fun u => u = (ad, Sy cy ad n k (mLay v i d t) o)) := by
  refine Met.ofW (cc := cX0_lay) (maxL := 3) (ret := none) (by decide) rfl ?_
  intro p e s m args below meth c s₁ B hml hv
  obtain ⟨rfl, hv⟩ := hv
  have hsz := hv.1
  subst hsz
  have hN := hv.2.2
  have hE := mP_E hv
  have hx := B.exec
  have hb := B.bytes
  have hr := B.returns
  have hts := atoms_spec (ws := wsX0_lay) B.pre
  have hown : s.vm.findClass RX0 = some m.cls := findClass_of_methodNamed B.named
  have hlocks := B.notSynchronized
  have hiX0 : ∀ w ∈ wsX00, w ∈ wsX0_lay := by decide +kernel
  have hl := lv_entry ([.ref (ad (100 + i)), .int (nI d), .int t]) (n := 3) (Nat.le_of_ble_eq_true rfl)
  rw [lg_entry_eq]
  generalize (lg_sl ([.ref (ad (100 + i)), .int (nI d), .int t]) ++ List.replicate (3 - (lg_sl ([.ref (ad (100 + i)), .int (nI d), .int t])).length) Slot.unset).toArray = ls at hl ⊢
  have hl : lv_has ls 3 [(0, .ref (ad (100 + i))), (1, .int (nI d)), (2, .int t)] := hl
  refine lv_aload_n hx hb dX0_lay_0 rfl (lv_at hl 0 rfl) ?_
  refine va_get (D := G) (ci := 0) (v := .ref (ad (200 + i))) (C := RX0) (T := TX0) (N := 3) hx hb hts hiX0 hown hN.1 (mE_P1 hE (S_ce hn h_i rfl)) 0 rfl rfl 0 (by decide) (hts (.fieldLink RX0 9 "SealedCupboards$Cupboard" "things" "[I") (by decide +kernel)) (fun _ h9 => h9) rfl dX0_lay_1 ?_
  refine lv_iload_n hx hb dX0_lay_4 rfl (lv_at hl 1 rfl) ?_
  refine mx_iald hx hb hN hE (S_te hn h_i rfl) (j := d) rfl (by omega) (by decide) dX0_lay_5 ?_
  refine lv_iload_n hx hb dX0_lay_6 rfl (lv_at hl 2 rfl) ?_
  refine lv_icmp_eq (tgt := 36) hx hb dX0_lay_7 (by decide) (fun c1 => ?_) (fun c1 => ?_)
  · skip
    exact mx_vret hx hb hr hE hlocks (by rw [mLay, if_pos c1]) dX0_lay_36
  · skip
    refine lv_aload_n hx hb dX0_lay_10 rfl (lv_at hl 0 rfl) ?_
    refine va_get (D := G) (ci := 0) (v := .ref (ad (200 + i))) (C := RX0) (T := TX0) (N := 3) hx hb hts hiX0 hown hN.1 (mE_P1 hE (S_ce hn h_i rfl)) 0 rfl rfl 0 (by decide) (hts (.fieldLink RX0 9 "SealedCupboards$Cupboard" "things" "[I") (by decide +kernel)) (fun _ h9 => h9) rfl dX0_lay_11 ?_
    refine lv_iload_n hx hb dX0_lay_14 rfl (lv_at hl 1 rfl) ?_
    refine lv_iload_n hx hb dX0_lay_15 rfl (lv_at hl 2 rfl) ?_
    refine mx_iast hx hb hN hE (S_te hn h_i rfl) (j := d) rfl (by omega) (by decide) dX0_lay_16 (fun H locs hE => ?_)
    obtain ⟨kv2, hkv2⟩ : ∃ y99, y99 = va_up v (200 + i) (upd (v (200 + i)) d t) := ⟨_, rfl⟩
    have hE : mE G (mA ad (Sy cy ad n k v o) s.heap.size) s.heap ad (Sy cy ad n k kv2 o) H locs := by rw [hkv2]; exact (S_up (sy_t hn h_i)) ▸ hE
    have ke3 : kv2 (100 + i) = v (100 + i) := by rw [hkv2, va_up_n _ _ (by omega)]
    have ke4 : kv2 (300 + i) = v (300 + i) := by rw [hkv2, va_up_n _ _ (by omega)]
    have ke5 : kv2 (200 + i) = (upd (v (200 + i)) d t) := by rw [hkv2, va_up_s]
    refine lv_aload_n hx hb dX0_lay_17 rfl (lv_at hl 0 rfl) ?_
    refine lv_dup hx hb dX0_lay_18 rfl ?_
    refine va_get (D := G) (ci := 0) (v := .int ((v (100 + i)) 2)) (C := RX0) (T := TX0) (N := 3) hx hb hts hiX0 hown hN.1 (mE_P1 hE (S_ce hn h_i ke3)) 0 rfl rfl 2 (by decide) (hts (.fieldLink RX0 26 "SealedCupboards$Cupboard" "changes" "I") (by decide +kernel)) (fun _ h9 => h9) rfl dX0_lay_19 ?_
    refine lv_iconst (v := nI 1) hx hb dX0_lay_22 (by decide) ?_
    refine mv_iadd (z := ((v (100 + i)) 2) + (nI 1)) hx hb rfl dX0_lay_23 ?_
    refine mx_put (ci := 0) (v := .int (((v (100 + i)) 2) + (nI 1))) (ty := .int) (C := RX0) (T := TX0) (N := 3) hx hb hts hiX0 tyX0 tyX0_ok nmX0 hown hN hE (S_ce hn h_i ke3) rfl 2 (by decide) (hts (.fieldLink RX0 26 "SealedCupboards$Cupboard" "changes" "I") (by decide +kernel)) (fun _ h9 => h9) rfl (by decide +kernel) rfl rfl (Nat.le_of_ble_eq_true rfl) dX0_lay_24 (fun H locs hE => ?_)
    obtain ⟨kv6, hkv6⟩ : ∃ y99, y99 = va_up kv2 (100 + i) (upd (v (100 + i)) 2 (((v (100 + i)) 2) + (nI 1))) := ⟨_, rfl⟩
    have hE : mE G (mA ad (Sy cy ad n k v o) s.heap.size) s.heap ad (Sy cy ad n k kv6 o) H locs := by rw [hkv6]; exact (S_up (sy_c hn h_i)) ▸ hE
    have ke7 : kv6 (200 + i) = (upd (v (200 + i)) d t) := by rw [hkv6, va_up_n _ _ (by omega)]; exact ke5
    have ke8 : kv6 (300 + i) = v (300 + i) := by rw [hkv6, va_up_n _ _ (by omega)]; exact ke4
    have ke9 : kv6 (100 + i) = (upd (v (100 + i)) 2 (((v (100 + i)) 2) + (nI 1))) := by rw [hkv6, va_up_s]
    refine lv_aload_n hx hb dX0_lay_27 rfl (lv_at hl 0 rfl) ?_
    refine va_get (D := G) (ci := 0) (v := .ref (ad (300 + i))) (C := RX0) (T := TX0) (N := 3) hx hb hts hiX0 hown hN.1 (mE_P1 hE (S_ce hn h_i ke9)) 0 rfl rfl 1 (by decide) (hts (.fieldLink RX0 15 "SealedCupboards$Cupboard" "sums" "[I") (by decide +kernel)) (fun _ h9 => h9) rfl dX0_lay_28 ?_
    refine lv_iload_n hx hb dX0_lay_31 rfl (lv_at hl 1 rfl) ?_
    refine lv_iload_n hx hb dX0_lay_32 rfl (lv_at hl 2 rfl) ?_
    refine va_callv (va_runSN (As := [.ref (ad (300 + i)), .int (nI d), .int t]) (rest := []) ⟨hx, hb, hml, hown, hts⟩ (c_X2_sumUp l G cy ad n k kv6 o hn hk _ (300 + i) d t (fun g => sy_s hn h_i) (by omega)) ⟨va_cnB 3 hts gX0_lay_X2_sumUp_n30 rfl rfl rfl (hN.2.1 (.methodLinkNest RX0 30 yX2_sumUp RX2) (by decide +kernel)) (hts (.initialized RX2) (by decide +kernel)) (by decide +kernel) ⟨Nat.le_of_ble_eq_true rfl, Nat.le_of_ble_eq_true rfl⟩, (hts (.static yX2_sumUp) (by decide +kernel)), trivial⟩ (mP_S hN hE) rfl rfl hl.1 rfl (lv_room (Nat.le_of_ble_eq_true rfl)) dX0_lay_33 ⟨Nat.le_of_ble_eq_true rfl, Nat.le_of_ble_eq_true rfl⟩) hE.2.2.2 (fun q _ h => mE_A hE q h) (mE_A hE) (fun uq tq H locs ht hvm hw hB hz1 hk1 hS => ?_)
    subst hw
    have hE : mE G (mA ad (Sy cy ad n k v o) s.heap.size) s.heap ad (Sy cy ad n k (va_up kv6 (300 + i) (mSumUp (kv6 (300 + i)) d t)) o) H locs := mE_call hE hB ht hS
    obtain ⟨kv10, hkv10⟩ : ∃ y99, y99 = va_up kv6 (300 + i) (mSumUp (kv6 (300 + i)) d t) := ⟨_, rfl⟩
    have hE : mE G (mA ad (Sy cy ad n k v o) s.heap.size) s.heap ad (Sy cy ad n k kv10 o) H locs := by rw [hkv10]; exact hE
    rw [ke8] at hkv10
    have ke11 : kv10 (100 + i) = (upd (v (100 + i)) 2 (((v (100 + i)) 2) + (nI 1))) := by rw [hkv10, va_up_n _ _ (by omega)]; exact ke9
    have ke12 : kv10 (200 + i) = (upd (v (200 + i)) d t) := by rw [hkv10, va_up_n _ _ (by omega)]; exact ke7
    have ke13 : kv10 (300 + i) = (mSumUp (v (300 + i)) d t) := by rw [hkv10, va_up_s]
    exact mx_vret hx hb hr hE hlocks (by rw [mLay, if_neg c1, hkv10, hkv6, hkv2]; rfl) dX0_lay_36

set_option maxHeartbeats 4000000 in
set_option maxRecDepth 100000 in
/-- the root, were two things swapped -/
theorem c_X2_rootWithSwap (l : Launch) (G : va_G) (cy : Nat → ClassId) (ad : Nat → Nat) (n k : Nat) (v : Nat → Nat → Int32) (o : mC) (hn : n ≤ 6) (hk : k ≤ 20) (sz : Nat) (i a b : Nat) (h_i : i < n) (ha : a < 16) (hb9 : b < 16) : mMi l yX2_rootWithSwap wsX2_rootWithSwap ({ frames := 9, cells := 0, slots := 0, locals := 180 }) G cy ad (Sy cy ad n k v o) sz [.ref (ad 0), .ref (ad (200 + i)), .int (nI a), .int (nI b)] 0 0 (fun (r : Int32) u => r = mRws (v 3) (v (200 + i)) a b 1 ∧ u = (ad, Sy cy ad n k (va_up v 3 (mRwt (v 3) (v (200 + i)) a b)) o)) := by
  refine Met.ofW (cc := cX2_rootWithSwap) (maxL := 5) (ret := (some .int)) (by decide) rfl ?_
  intro p e s m args below meth c s₁ B hml hv
  obtain ⟨rfl, hv⟩ := hv
  have hsz := hv.1
  subst hsz
  have hN := hv.2.2
  have hE := mP_E hv
  have hx := B.exec
  have hb := B.bytes
  have hr := B.returns
  have hts := atoms_spec (ws := wsX2_rootWithSwap) B.pre
  have hown : s.vm.findClass RX2 = some m.cls := findClass_of_methodNamed B.named
  have hlocks := B.notSynchronized
  have hiX2 : ∀ w ∈ wsX20, w ∈ wsX2_rootWithSwap := by decide +kernel
  have hl := lv_entry ([.ref (ad 0), .ref (ad (200 + i)), .int (nI a), .int (nI b)]) (n := 5) (Nat.le_of_ble_eq_true rfl)
  rw [lg_entry_eq]
  generalize (lg_sl ([.ref (ad 0), .ref (ad (200 + i)), .int (nI a), .int (nI b)]) ++ List.replicate (5 - (lg_sl ([.ref (ad 0), .ref (ad (200 + i)), .int (nI a), .int (nI b)])).length) Slot.unset).toArray = ls at hl ⊢
  have hl : lv_has ls 5 [(0, .ref (ad 0)), (1, .ref (ad (200 + i))), (2, .int (nI a)), (3, .int (nI b))] := hl
  refine lv_aload_n hx hb dX2_rootWithSwap_0 rfl (lv_at hl 0 rfl) ?_
  refine va_get (D := G) (ci := 2) (v := .ref (ad 3)) (C := RX2) (T := TX2) (N := 5) hx hb hts hiX2 hown hN.1 (mE_P1 hE S_0) 0 rfl rfl 2 (by decide) (hts (.fieldLink RX2 21 "SealedCupboards" "spareSums" "[I") (by decide +kernel)) (fun _ h9 => h9) rfl dX2_rootWithSwap_1 ?_
  refine lv_iload_n hx hb dX2_rootWithSwap_4 rfl (lv_at hl 2 rfl) ?_
  refine lv_aload_n hx hb dX2_rootWithSwap_5 rfl (lv_at hl 1 rfl) ?_
  refine lv_iload_n hx hb dX2_rootWithSwap_6 rfl (lv_at hl 3 rfl) ?_
  refine mx_iald hx hb hN hE (S_te hn h_i rfl) (j := b) rfl (by omega) (by decide) dX2_rootWithSwap_7 ?_
  refine va_callv (va_runS (As := [.ref (ad 3), .int (nI a), .int (v (200 + i) b)]) (rest := []) ⟨hx, hb, hml, hown, hts⟩ (c_X2_sumUp l G cy ad n k v o hn hk _ 3 a (v (200 + i) b) (fun g => sy_3) (by omega)) (va_cwS 3 hts gX2_rootWithSwap_X2_sumUp rfl rfl rfl (by decide +kernel) ⟨Nat.le_of_ble_eq_true rfl, Nat.le_of_ble_eq_true rfl⟩) (mP_S hN hE) rfl rfl hl.1 rfl (lv_room (Nat.le_of_ble_eq_true rfl)) dX2_rootWithSwap_8 ⟨Nat.le_of_ble_eq_true rfl, Nat.le_of_ble_eq_true rfl⟩) hE.2.2.2 (fun q _ h => mE_A hE q h) (mE_A hE) (fun uq tq H locs ht hvm hw hB hz1 hk1 hS => ?_)
  subst hw
  have hE : mE G (mA ad (Sy cy ad n k v o) s.heap.size) s.heap ad (Sy cy ad n k (va_up v 3 (mSumUp (v 3) a (v (200 + i) b))) o) H locs := mE_call hE hB ht hS
  obtain ⟨kv1, hkv1⟩ : ∃ y99, y99 = va_up v 3 (mSumUp (v 3) a (v (200 + i) b)) := ⟨_, rfl⟩
  have hE : mE G (mA ad (Sy cy ad n k v o) s.heap.size) s.heap ad (Sy cy ad n k kv1 o) H locs := by rw [hkv1]; exact hE
  have ke2 : kv1 (200 + i) = v (200 + i) := by rw [hkv1, va_up_n _ _ (by omega)]
  have ke3 : kv1 3 = (mSumUp (v 3) a (v (200 + i) b)) := by rw [hkv1, va_up_s]
  refine lv_aload_n hx hb dX2_rootWithSwap_11 rfl (lv_at hl 0 rfl) ?_
  refine va_get (D := G) (ci := 2) (v := .ref (ad 3)) (C := RX2) (T := TX2) (N := 5) hx hb hts hiX2 hown hN.1 (mE_P1 hE S_0) 0 rfl rfl 2 (by decide) (hts (.fieldLink RX2 21 "SealedCupboards" "spareSums" "[I") (by decide +kernel)) (fun _ h9 => h9) rfl dX2_rootWithSwap_12 ?_
  refine lv_iload_n hx hb dX2_rootWithSwap_15 rfl (lv_at hl 3 rfl) ?_
  refine lv_aload_n hx hb dX2_rootWithSwap_16 rfl (lv_at hl 1 rfl) ?_
  refine lv_iload_n hx hb dX2_rootWithSwap_17 rfl (lv_at hl 2 rfl) ?_
  refine mx_iald hx hb hN hE (S_te hn h_i ke2) (j := a) rfl (by omega) (by decide) dX2_rootWithSwap_18 ?_
  refine va_callv (va_runS (As := [.ref (ad 3), .int (nI b), .int (v (200 + i) a)]) (rest := []) ⟨hx, hb, hml, hown, hts⟩ (c_X2_sumUp l G cy ad n k kv1 o hn hk _ 3 b (v (200 + i) a) (fun g => sy_3) (by omega)) (va_cwS 3 hts gX2_rootWithSwap_X2_sumUp rfl rfl rfl (by decide +kernel) ⟨Nat.le_of_ble_eq_true rfl, Nat.le_of_ble_eq_true rfl⟩) (mP_S hN hE) rfl rfl hl.1 rfl (lv_room (Nat.le_of_ble_eq_true rfl)) dX2_rootWithSwap_19 ⟨Nat.le_of_ble_eq_true rfl, Nat.le_of_ble_eq_true rfl⟩) hE.2.2.2 (fun q _ h => mE_A hE q h) (mE_A hE) (fun uq tq H locs ht hvm hw hB hz1 hk1 hS => ?_)
  subst hw
  have hE : mE G (mA ad (Sy cy ad n k v o) s.heap.size) s.heap ad (Sy cy ad n k (va_up kv1 3 (mSumUp (kv1 3) b (v (200 + i) a))) o) H locs := mE_call hE hB ht hS
  obtain ⟨kv4, hkv4⟩ : ∃ y99, y99 = va_up kv1 3 (mSumUp (kv1 3) b (v (200 + i) a)) := ⟨_, rfl⟩
  have hE : mE G (mA ad (Sy cy ad n k v o) s.heap.size) s.heap ad (Sy cy ad n k kv4 o) H locs := by rw [hkv4]; exact hE
  rw [ke3] at hkv4
  have ke5 : kv4 (200 + i) = v (200 + i) := by rw [hkv4, va_up_n _ _ (by omega)]; exact ke2
  have ke6 : kv4 3 = (mSumUp (mSumUp (v 3) a (v (200 + i) b)) b (v (200 + i) a)) := by rw [hkv4, va_up_s]
  refine lv_aload_n hx hb dX2_rootWithSwap_22 rfl (lv_at hl 0 rfl) ?_
  refine va_get (D := G) (ci := 2) (v := .ref (ad 3)) (C := RX2) (T := TX2) (N := 5) hx hb hts hiX2 hown hN.1 (mE_P1 hE S_0) 0 rfl rfl 2 (by decide) (hts (.fieldLink RX2 21 "SealedCupboards" "spareSums" "[I") (by decide +kernel)) (fun _ h9 => h9) rfl dX2_rootWithSwap_23 ?_
  refine lv_iconst (v := nI 1) hx hb dX2_rootWithSwap_26 (by decide) ?_
  refine mx_iald hx hb hN hE (S_3e ke6) (j := 1) rfl (by omega) (by decide) dX2_rootWithSwap_27 ?_
  refine lv_istore (lv' := [(4, .int ((mSumUp (mSumUp (v 3) a (v (200 + i) b)) b (v (200 + i) a)) 1)), (0, .ref (ad 0)), (1, .ref (ad (200 + i))), (2, .int (nI a)), (3, .int (nI b))]) hx hb dX2_rootWithSwap_28 hl (by decide) rfl (fun ls hl => ?_)
  refine lv_aload_n hx hb dX2_rootWithSwap_30 rfl (lv_at hl 1 rfl) ?_
  refine va_get (D := G) (ci := 2) (v := .ref (ad 3)) (C := RX2) (T := TX2) (N := 5) hx hb hts hiX2 hown hN.1 (mE_P1 hE S_0) 0 rfl rfl 2 (by decide) (hts (.fieldLink RX2 21 "SealedCupboards" "spareSums" "[I") (by decide +kernel)) (fun _ h9 => h9) rfl dX2_rootWithSwap_31 ?_
  refine lv_iload_n hx hb dX2_rootWithSwap_34 rfl (lv_at hl 3 rfl) ?_
  refine lv_aload_n hx hb dX2_rootWithSwap_35 rfl (lv_at hl 2 rfl) ?_
  refine lv_iload_n hx hb dX2_rootWithSwap_36 rfl (lv_at hl 3 rfl) ?_
  refine mx_iald hx hb hN hE (S_te hn h_i ke5) (j := a) rfl (by omega) (by decide) dX2_rootWithSwap_37 ?_
  refine va_callv (va_runS (As := [.ref (ad 3), .int (nI a), .int (v (200 + i) a)]) (rest := []) ⟨hx, hb, hml, hown, hts⟩ (c_X2_sumUp l G cy ad n k kv4 o hn hk _ 3 a (v (200 + i) a) (fun g => sy_3) (by omega)) (va_cwS 3 hts gX2_rootWithSwap_X2_sumUp rfl rfl rfl (by decide +kernel) ⟨Nat.le_of_ble_eq_true rfl, Nat.le_of_ble_eq_true rfl⟩) (mP_S hN hE) rfl rfl hl.1 rfl (lv_room (Nat.le_of_ble_eq_true rfl)) dX2_rootWithSwap_38 ⟨Nat.le_of_ble_eq_true rfl, Nat.le_of_ble_eq_true rfl⟩) hE.2.2.2 (fun q _ h => mE_A hE q h) (mE_A hE) (fun uq tq H locs ht hvm hw hB hz1 hk1 hS => ?_)
  subst hw
  have hE : mE G (mA ad (Sy cy ad n k v o) s.heap.size) s.heap ad (Sy cy ad n k (va_up kv4 3 (mSumUp (kv4 3) a (v (200 + i) a))) o) H locs := mE_call hE hB ht hS
  obtain ⟨kv7, hkv7⟩ : ∃ y99, y99 = va_up kv4 3 (mSumUp (kv4 3) a (v (200 + i) a)) := ⟨_, rfl⟩
  have hE : mE G (mA ad (Sy cy ad n k v o) s.heap.size) s.heap ad (Sy cy ad n k kv7 o) H locs := by rw [hkv7]; exact hE
  rw [ke6] at hkv7
  have ke8 : kv7 (200 + i) = v (200 + i) := by rw [hkv7, va_up_n _ _ (by omega)]; exact ke5
  have ke9 : kv7 3 = (mSumUp (mSumUp (mSumUp (v 3) a (v (200 + i) b)) b (v (200 + i) a)) a (v (200 + i) a)) := by rw [hkv7, va_up_s]
  refine lv_aload_n hx hb dX2_rootWithSwap_41 rfl (lv_at hl 1 rfl) ?_
  refine va_get (D := G) (ci := 2) (v := .ref (ad 3)) (C := RX2) (T := TX2) (N := 5) hx hb hts hiX2 hown hN.1 (mE_P1 hE S_0) 0 rfl rfl 2 (by decide) (hts (.fieldLink RX2 21 "SealedCupboards" "spareSums" "[I") (by decide +kernel)) (fun _ h9 => h9) rfl dX2_rootWithSwap_42 ?_
  refine lv_iload_n hx hb dX2_rootWithSwap_45 rfl (lv_at hl 4 rfl) ?_
  refine lv_aload_n hx hb dX2_rootWithSwap_46 rfl (lv_at hl 2 rfl) ?_
  refine lv_iload_n hx hb dX2_rootWithSwap_47 rfl (lv_at hl 4 rfl) ?_
  refine mx_iald hx hb hN hE (S_te hn h_i ke8) (j := b) rfl (by omega) (by decide) dX2_rootWithSwap_48 ?_
  refine va_callv (va_runS (As := [.ref (ad 3), .int (nI b), .int (v (200 + i) b)]) (rest := []) ⟨hx, hb, hml, hown, hts⟩ (c_X2_sumUp l G cy ad n k kv7 o hn hk _ 3 b (v (200 + i) b) (fun g => sy_3) (by omega)) (va_cwS 3 hts gX2_rootWithSwap_X2_sumUp rfl rfl rfl (by decide +kernel) ⟨Nat.le_of_ble_eq_true rfl, Nat.le_of_ble_eq_true rfl⟩) (mP_S hN hE) rfl rfl hl.1 rfl (lv_room (Nat.le_of_ble_eq_true rfl)) dX2_rootWithSwap_49 ⟨Nat.le_of_ble_eq_true rfl, Nat.le_of_ble_eq_true rfl⟩) hE.2.2.2 (fun q _ h => mE_A hE q h) (mE_A hE) (fun uq tq H locs ht hvm hw hB hz1 hk1 hS => ?_)
  subst hw
  have hE : mE G (mA ad (Sy cy ad n k v o) s.heap.size) s.heap ad (Sy cy ad n k (va_up kv7 3 (mSumUp (kv7 3) b (v (200 + i) b))) o) H locs := mE_call hE hB ht hS
  obtain ⟨kv10, hkv10⟩ : ∃ y99, y99 = va_up kv7 3 (mSumUp (kv7 3) b (v (200 + i) b)) := ⟨_, rfl⟩
  have hE : mE G (mA ad (Sy cy ad n k v o) s.heap.size) s.heap ad (Sy cy ad n k kv10 o) H locs := by rw [hkv10]; exact hE
  rw [ke9] at hkv10
  have ke11 : kv10 (200 + i) = v (200 + i) := by rw [hkv10, va_up_n _ _ (by omega)]; exact ke8
  have ke12 : kv10 3 = (mSumUp (mSumUp (mSumUp (mSumUp (v 3) a (v (200 + i) b)) b (v (200 + i) a)) a (v (200 + i) a)) b (v (200 + i) b)) := by rw [hkv10, va_up_s]
  refine lv_iload hx hb dX2_rootWithSwap_52 (lv_at hl 0 rfl) ?_
  exact mx_iret hx hb hr hE hlocks ⟨rfl, by rw [hkv10, hkv7, va_upup, hkv4, va_upup, hkv1, va_upup]; rfl⟩ dX2_rootWithSwap_54

set_option maxHeartbeats 4000000 in
set_option maxRecDepth 100000 in
/-- the places that are looked at -/
theorem c_X2_placesLookedAt (l : Launch) (G : va_G) (cy : Nat → ClassId) (ad : Nat → Nat) (n k : Nat) (v : Nat → Nat → Int32) (o : mC) (hn : n ≤ 6) (hk : k ≤ 20) (sz : Nat) (w1 w2 : Nat) (hw1 : ∀ g, sy cy ad n k o w1 g = some (mI cy 32 g)) (hw2 : ∀ g, sy cy ad n k o w2 g = some (mI cy 32 g)) : mMi l yX2_placesLookedAt wsX2_placesLookedAt ({ frames := 8, cells := 0, slots := 0, locals := 140 }) G cy ad (Sy cy ad n k v o) sz [.ref (ad w1), .ref (ad w2)] 0 0 (fun (r : Int32) u => r = nI (mLook (v w1) (v w2) 15) ∧ u = (ad, Sy cy ad n k v o)) := by
  refine Met.ofW (cc := cX2_placesLookedAt) (maxL := 4) (ret := (some .int)) (by decide) rfl ?_
  intro p e s m args below meth c s₁ B hml hv
  obtain ⟨rfl, hv⟩ := hv
  have hsz := hv.1
  subst hsz
  have hN := hv.2.2
  have hE := mP_E hv
  have hx := B.exec
  have hb := B.bytes
  have hr := B.returns
  have hts := atoms_spec (ws := wsX2_placesLookedAt) B.pre
  have hown : s.vm.findClass RX2 = some m.cls := findClass_of_methodNamed B.named
  have hlocks := B.notSynchronized
  have hl := lv_entry ([.ref (ad w1), .ref (ad w2)]) (n := 4) (Nat.le_of_ble_eq_true rfl)
  rw [lg_entry_eq]
  generalize (lg_sl ([.ref (ad w1), .ref (ad w2)]) ++ List.replicate (4 - (lg_sl ([.ref (ad w1), .ref (ad w2)])).length) Slot.unset).toArray = ls at hl ⊢
  have hl : lv_has ls 4 [(0, .ref (ad w1)), (1, .ref (ad w2))] := hl
  refine lv_iconst (v := nI 2) hx hb dX2_placesLookedAt_0 (by decide) ?_
  refine lv_istore_n (lv' := [(2, .int (nI 2)), (0, .ref (ad w1)), (1, .ref (ad w2))]) hx hb dX2_placesLookedAt_1 rfl hl (by decide) rfl (fun ls hl => ?_)
  refine lv_iconst (v := nI 1) hx hb dX2_placesLookedAt_2 (by decide) ?_
  refine lv_istore_n (lv' := [(3, .int (nI 1)), (2, .int (nI 2)), (0, .ref (ad w1)), (1, .ref (ad w2))]) hx hb dX2_placesLookedAt_3 rfl hl (by decide) rfl (fun ls hl => ?_)
  refine mx_loop (β := Nat) (fun n9 (q : Nat) H locs ls => n9 = 15 - q ∧ (q ≤ 15) ∧ mE G (mA ad (Sy cy ad n k v o) s.heap.size) s.heap ad (Sy cy ad n k v o) H locs ∧ lv_has ls 4 [(3, .int (nI (q + 1))), (2, .int (nI (mLook (v w1) (v w2) q))), (0, .ref (ad w1)), (1, .ref (ad w2))]) ?_ (15 - 0) (0) _ _ _ ⟨rfl, (by omega), hE, lv_sub hl [0, 1, 2, 3] rfl⟩
  intro n9 q H locs ls hI ih1
  obtain ⟨hn2, hle, hE, hl⟩ := hI
  have hm := mLook_lt (v w1) (v w2) q hle
  have hE : mE G (mA ad (Sy cy ad n k v o) s.heap.size) s.heap ad (Sy cy ad n k v o) H locs := hE
  have hl : lv_has ls 4 [(3, .int (nI (q + 1))), (2, .int (nI (mLook (v w1) (v w2) q))), (0, .ref (ad w1)), (1, .ref (ad w2))] := hl
  refine lv_iload_n hx hb dX2_placesLookedAt_4 rfl (lv_at hl 0 rfl) ?_
  refine lv_bipush (v := nI 16) hx hb dX2_placesLookedAt_5 (by decide) ?_
  refine mv_ge (tgt := 41) hx hb (by omega) (by omega) dX2_placesLookedAt_7 (by decide) (fun c3 => ?_) (fun c3 => ?_)
  · skip
    refine lv_iload_n hx hb dX2_placesLookedAt_41 rfl (lv_at hl 1 rfl) ?_
    exact mx_iret hx hb hr hE hlocks ⟨by rw [show q = 15 by omega], rfl⟩ dX2_placesLookedAt_42
  · skip
    refine lv_iload_n hx hb dX2_placesLookedAt_10 rfl (lv_at hl 1 rfl) ?_
    refine lv_iload_n hx hb dX2_placesLookedAt_11 rfl (lv_at hl 0 rfl) ?_
    refine va_calli (va_runS (As := [.int (nI (mLook (v w1) (v w2) q)), .int (nI (q + 1))]) (rest := []) ⟨hx, hb, hml, hown, hts⟩ (c_X2_hasBit l G cy ad (Sy cy ad n k v o) _ (mLook (v w1) (v w2) q) (q + 1) hm (by omega)) (va_cwS 2 hts gX2_placesLookedAt_X2_hasBit rfl rfl rfl (by decide +kernel) ⟨Nat.le_of_ble_eq_true rfl, Nat.le_of_ble_eq_true rfl⟩) (mP_S hN hE) rfl rfl hl.1 rfl (lv_room (Nat.le_of_ble_eq_true rfl)) dX2_placesLookedAt_12 ⟨Nat.le_of_ble_eq_true rfl, Nat.le_of_ble_eq_true rfl⟩) hE.2.2.2 (fun q _ h => mE_A hE q h) (mE_A hE) (fun r uq tq H locs ht hvm hw hB hz1 hk1 hS => ?_)
    obtain ⟨rfl, rfl⟩ := hw
    have hE : mE G (mA ad (Sy cy ad n k v o) s.heap.size) s.heap ad (Sy cy ad n k v o) H locs := mE_call hE hB ht hS
    refine lv_if_eq (tgt := 35) hx hb dX2_placesLookedAt_15 (by decide) (fun c4 => ?_) (fun c4 => ?_)
    · skip
      have c4 := mb_0.mp c4
      have e9 : mLook (v w1) (v w2) q = mLook (v w1) (v w2) (q + 1) := by simp only [mLook]; rw [if_neg (fun h9 => by first | exact c4 h9.1 | exact h9.2 c4)]
      rw [e9] at hl
      refine lv_iinc (v := nI ((q + 1) + 1)) (lv' := [(3, .int (nI ((q + 1) + 1))), (2, .int (nI (mLook (v w1) (v w2) (q + 1)))), (0, .ref (ad w1)), (1, .ref (ad w2))]) hx hb dX2_placesLookedAt_35 hl (k := 0) rfl (nI_add _ _) (by decide) rfl (fun ls hl => ?_)
      refine lv_goto (tgt := 4) hx hb dX2_placesLookedAt_38 (by decide) ?_
      exact ih1 (15 - (q + 1)) (q + 1) _ _ _ (by rw [hn2]; omega) ⟨rfl, (by omega), hE, lv_sub hl [0, 1, 2, 3] rfl⟩
    · skip
      have c4 := Classical.not_not.mp (fun h9 => c4 (mb_0.mpr h9))
      refine lv_aload_n hx hb dX2_placesLookedAt_18 rfl (lv_at hl 2 rfl) ?_
      refine lv_iload_n hx hb dX2_placesLookedAt_19 rfl (lv_at hl 0 rfl) ?_
      refine mx_iald hx hb hN hE (S_w hw1 rfl) (j := q + 1) rfl (by omega) (by decide) dX2_placesLookedAt_20 ?_
      refine lv_aload_n hx hb dX2_placesLookedAt_21 rfl (lv_at hl 3 rfl) ?_
      refine lv_iload_n hx hb dX2_placesLookedAt_22 rfl (lv_at hl 0 rfl) ?_
      refine mx_iald hx hb hN hE (S_w hw2 rfl) (j := q + 1) rfl (by omega) (by decide) dX2_placesLookedAt_23 ?_
      refine lv_icmp_eq (tgt := 35) hx hb dX2_placesLookedAt_24 (by decide) (fun c5 => ?_) (fun c5 => ?_)
      · skip
        have e9 : mLook (v w1) (v w2) q = mLook (v w1) (v w2) (q + 1) := by simp only [mLook]; rw [if_neg (fun h9 => by first | exact c5 h9.1 | exact h9.2 c5)]
        rw [e9] at hl
        refine lv_iinc (v := nI ((q + 1) + 1)) (lv' := [(3, .int (nI ((q + 1) + 1))), (2, .int (nI (mLook (v w1) (v w2) (q + 1)))), (0, .ref (ad w1)), (1, .ref (ad w2))]) hx hb dX2_placesLookedAt_35 hl (k := 0) rfl (nI_add _ _) (by decide) rfl (fun ls hl => ?_)
        refine lv_goto (tgt := 4) hx hb dX2_placesLookedAt_38 (by decide) ?_
        exact ih1 (15 - (q + 1)) (q + 1) _ _ _ (by rw [hn2]; omega) ⟨rfl, (by omega), hE, lv_sub hl [0, 1, 2, 3] rfl⟩
      · skip
        refine lv_iload_n hx hb dX2_placesLookedAt_27 rfl (lv_at hl 1 rfl) ?_
        refine lv_iconst (v := nI 3) hx hb dX2_placesLookedAt_28 (by decide) ?_
        refine lv_iconst (v := nI 2) hx hb dX2_placesLookedAt_29 (by decide) ?_
        refine lv_iload_n hx hb dX2_placesLookedAt_30 rfl (lv_at hl 0 rfl) ?_
        refine mv_imul (z := nI (2 * (q + 1))) hx hb (pk_mul _ _) dX2_placesLookedAt_31 ?_
        refine mv_ishl (z := nI (3 * 2 ^ (2 * (q + 1)))) hx hb (pk_shlN _ _ (mu_l _ (by omega)) (by have : 2 ^ (2 * (q + 1)) ≤ 2 ^ 30 := Nat.pow_le_pow_right (by decide) (by omega); omega)) dX2_placesLookedAt_32 ?_
        refine mv_ior (z := nI (mLook (v w1) (v w2) q ||| 3 * 2 ^ (2 * (q + 1)))) hx hb (mu_or _ _) dX2_placesLookedAt_33 ?_
        refine lv_istore_n (lv' := [(2, .int (nI (mLook (v w1) (v w2) q ||| 3 * 2 ^ (2 * (q + 1))))), (3, .int (nI (q + 1))), (0, .ref (ad w1)), (1, .ref (ad w2))]) hx hb dX2_placesLookedAt_34 rfl hl (by decide) rfl (fun ls hl => ?_)
        have e9 : mLook (v w1) (v w2) q ||| 3 * 2 ^ (2 * (q + 1)) = mLook (v w1) (v w2) (q + 1) := by simp only [mLook]; rw [if_pos ⟨c4, c5⟩]
        rw [e9] at hl
        refine lv_iinc (v := nI ((q + 1) + 1)) (lv' := [(3, .int (nI ((q + 1) + 1))), (2, .int (nI (mLook (v w1) (v w2) (q + 1)))), (0, .ref (ad w1)), (1, .ref (ad w2))]) hx hb dX2_placesLookedAt_35 hl (k := 1) rfl (nI_add _ _) (by decide) rfl (fun ls hl => ?_)
        refine lv_goto (tgt := 4) hx hb dX2_placesLookedAt_38 (by decide) ?_
        exact ih1 (15 - (q + 1)) (q + 1) _ _ _ (by rw [hn2]; omega) ⟨rfl, (by omega), hE, lv_sub hl [0, 1, 2, 3] rfl⟩

set_option maxHeartbeats 4000000 in
set_option maxRecDepth 100000 in
/-- the drawers found apart -/
theorem c_X2_drawersApart (l : Launch) (G : va_G) (cy : Nat → ClassId) (ad : Nat → Nat) (n k : Nat) (v : Nat → Nat → Int32) (o : mC) (hn : n ≤ 6) (hk : k ≤ 20) (sz : Nat) (w1 w2 : Nat) (hw1 : ∀ g, sy cy ad n k o w1 g = some (mI cy 32 g)) (hw2 : ∀ g, sy cy ad n k o w2 g = some (mI cy 32 g)) : mMi l yX2_drawersApart wsX2_drawersApart ({ frames := 9, cells := 0, slots := 0, locals := 180 }) G cy ad (Sy cy ad n k v o) sz [.ref (ad w1), .ref (ad w2)] 0 0 (fun (r : Int32) u => r = nI (mDr (mLook (v w1) (v w2) 15) (v w1) (v w2) 16) ∧ u = (ad, Sy cy ad n k v o)) := by
  refine Met.ofW (cc := cX2_drawersApart) (maxL := 6) (ret := (some .int)) (by decide) rfl ?_
  intro p e s m args below meth c s₁ B hml hv
  obtain ⟨rfl, hv⟩ := hv
  have hsz := hv.1
  subst hsz
  have hN := hv.2.2
  have hE := mP_E hv
  have hx := B.exec
  have hb := B.bytes
  have hr := B.returns
  have hts := atoms_spec (ws := wsX2_drawersApart) B.pre
  have hown : s.vm.findClass RX2 = some m.cls := findClass_of_methodNamed B.named
  have hlocks := B.notSynchronized
  have hl := lv_entry ([.ref (ad w1), .ref (ad w2)]) (n := 6) (Nat.le_of_ble_eq_true rfl)
  rw [lg_entry_eq]
  generalize (lg_sl ([.ref (ad w1), .ref (ad w2)]) ++ List.replicate (6 - (lg_sl ([.ref (ad w1), .ref (ad w2)])).length) Slot.unset).toArray = ls at hl ⊢
  have hl : lv_has ls 6 [(0, .ref (ad w1)), (1, .ref (ad w2))] := hl
  refine lv_aload_n hx hb dX2_drawersApart_0 rfl (lv_at hl 0 rfl) ?_
  refine lv_aload_n hx hb dX2_drawersApart_1 rfl (lv_at hl 1 rfl) ?_
  refine va_calli (va_runS (As := [.ref (ad w1), .ref (ad w2)]) (rest := []) ⟨hx, hb, hml, hown, hts⟩ (c_X2_placesLookedAt l G cy ad n k v o hn hk _ w1 w2 hw1 hw2) (va_cwS 2 hts gX2_drawersApart_X2_placesLookedAt rfl rfl rfl (by decide +kernel) ⟨Nat.le_of_ble_eq_true rfl, Nat.le_of_ble_eq_true rfl⟩) (mP_S hN hE) rfl rfl hl.1 rfl (lv_room (Nat.le_of_ble_eq_true rfl)) dX2_drawersApart_2 ⟨Nat.le_of_ble_eq_true rfl, Nat.le_of_ble_eq_true rfl⟩) hE.2.2.2 (fun q _ h => mE_A hE q h) (mE_A hE) (fun r uq tq H locs ht hvm hw hB hz1 hk1 hS => ?_)
  obtain ⟨rfl, rfl⟩ := hw
  have hE : mE G (mA ad (Sy cy ad n k v o) s.heap.size) s.heap ad (Sy cy ad n k v o) H locs := mE_call hE hB ht hS
  refine lv_istore_n (lv' := [(2, .int (nI (mLook (v w1) (v w2) 15))), (0, .ref (ad w1)), (1, .ref (ad w2))]) hx hb dX2_drawersApart_5 rfl hl (by decide) rfl (fun ls hl => ?_)
  refine lv_iconst (v := nI 0) hx hb dX2_drawersApart_6 (by decide) ?_
  refine lv_istore_n (lv' := [(3, .int (nI 0)), (2, .int (nI (mLook (v w1) (v w2) 15))), (0, .ref (ad w1)), (1, .ref (ad w2))]) hx hb dX2_drawersApart_7 rfl hl (by decide) rfl (fun ls hl => ?_)
  refine lv_iconst (v := nI 0) hx hb dX2_drawersApart_8 (by decide) ?_
  refine lv_istore (lv' := [(4, .int (nI 0)), (3, .int (nI 0)), (2, .int (nI (mLook (v w1) (v w2) 15))), (0, .ref (ad w1)), (1, .ref (ad w2))]) hx hb dX2_drawersApart_9 hl (by decide) rfl (fun ls hl => ?_)
  refine mx_loop (β := Nat) (fun n9 (d : Nat) H locs ls => n9 = 16 - d ∧ (d ≤ 16) ∧ mE G (mA ad (Sy cy ad n k v o) s.heap.size) s.heap ad (Sy cy ad n k v o) H locs ∧ lv_has ls 6 [(4, .int (nI d)), (3, .int (nI (mDr (mLook (v w1) (v w2) 15) (v w1) (v w2) d))), (2, .int (nI (mLook (v w1) (v w2) 15))), (0, .ref (ad w1)), (1, .ref (ad w2))]) ?_ (16 - 0) (0) _ _ _ ⟨rfl, (by omega), hE, lv_sub hl [0, 1, 2, 3, 4] rfl⟩
  intro n9 d H locs ls hI ih1
  obtain ⟨hn2, hle, hE, hl⟩ := hI
  have hm := mLook_lt (v w1) (v w2) 15 (by decide)
  have hE : mE G (mA ad (Sy cy ad n k v o) s.heap.size) s.heap ad (Sy cy ad n k v o) H locs := hE
  have hl : lv_has ls 6 [(4, .int (nI d)), (3, .int (nI (mDr (mLook (v w1) (v w2) 15) (v w1) (v w2) d))), (2, .int (nI (mLook (v w1) (v w2) 15))), (0, .ref (ad w1)), (1, .ref (ad w2))] := hl
  refine lv_iload hx hb dX2_drawersApart_11 (lv_at hl 0 rfl) ?_
  refine lv_bipush (v := nI 16) hx hb dX2_drawersApart_13 (by decide) ?_
  refine mv_ge (tgt := 58) hx hb (by omega) (by omega) dX2_drawersApart_15 (by decide) (fun c3 => ?_) (fun c3 => ?_)
  · skip
    refine lv_iload_n hx hb dX2_drawersApart_58 rfl (lv_at hl 1 rfl) ?_
    exact mx_iret hx hb hr hE hlocks ⟨by rw [show d = 16 by omega], rfl⟩ dX2_drawersApart_59
  · skip
    refine lv_bipush (v := nI 16) hx hb dX2_drawersApart_18 (by decide) ?_
    refine lv_iload hx hb dX2_drawersApart_20 (lv_at hl 0 rfl) ?_
    refine mv_iadd (z := nI (16 + d)) hx hb (nI_add _ _) dX2_drawersApart_22 ?_
    refine lv_istore (lv' := [(5, .int (nI (16 + d))), (4, .int (nI d)), (3, .int (nI (mDr (mLook (v w1) (v w2) 15) (v w1) (v w2) d))), (2, .int (nI (mLook (v w1) (v w2) 15))), (0, .ref (ad w1)), (1, .ref (ad w2))]) hx hb dX2_drawersApart_23 hl (by decide) rfl (fun ls hl => ?_)
    refine lv_iload_n hx hb dX2_drawersApart_25 rfl (lv_at hl 3 rfl) ?_
    refine lv_iload hx hb dX2_drawersApart_26 (lv_at hl 0 rfl) ?_
    refine va_calli (va_runS (As := [.int (nI (mLook (v w1) (v w2) 15)), .int (nI (16 + d))]) (rest := []) ⟨hx, hb, hml, hown, hts⟩ (c_X2_hasBit l G cy ad (Sy cy ad n k v o) _ (mLook (v w1) (v w2) 15) (16 + d) hm (by omega)) (va_cwS 2 hts gX2_drawersApart_X2_hasBit rfl rfl rfl (by decide +kernel) ⟨Nat.le_of_ble_eq_true rfl, Nat.le_of_ble_eq_true rfl⟩) (mP_S hN hE) rfl rfl hl.1 rfl (lv_room (Nat.le_of_ble_eq_true rfl)) dX2_drawersApart_28 ⟨Nat.le_of_ble_eq_true rfl, Nat.le_of_ble_eq_true rfl⟩) hE.2.2.2 (fun q _ h => mE_A hE q h) (mE_A hE) (fun r uq tq H locs ht hvm hw hB hz1 hk1 hS => ?_)
    obtain ⟨rfl, rfl⟩ := hw
    have hE : mE G (mA ad (Sy cy ad n k v o) s.heap.size) s.heap ad (Sy cy ad n k v o) H locs := mE_call hE hB ht hS
    refine lv_if_eq (tgt := 52) hx hb dX2_drawersApart_31 (by decide) (fun c4 => ?_) (fun c4 => ?_)
    · skip
      have c4 := mb_0.mp c4
      have e9 : mDr (mLook (v w1) (v w2) 15) (v w1) (v w2) d = mDr (mLook (v w1) (v w2) 15) (v w1) (v w2) (d + 1) := by simp only [mDr]; rw [if_neg (fun h9 => by first | exact c4 h9.1 | exact h9.2 c4)]
      rw [e9] at hl
      refine lv_iinc (v := nI (d + 1)) (lv' := [(4, .int (nI (d + 1))), (5, .int (nI (16 + d))), (3, .int (nI (mDr (mLook (v w1) (v w2) 15) (v w1) (v w2) (d + 1)))), (2, .int (nI (mLook (v w1) (v w2) 15))), (0, .ref (ad w1)), (1, .ref (ad w2))]) hx hb dX2_drawersApart_52 hl (k := 1) rfl (nI_add _ _) (by decide) rfl (fun ls hl => ?_)
      refine lv_goto (tgt := 11) hx hb dX2_drawersApart_55 (by decide) ?_
      exact ih1 (16 - (d + 1)) (d + 1) _ _ _ (by rw [hn2]; omega) ⟨rfl, (by omega), hE, lv_sub hl [0, 2, 3, 4, 5] rfl⟩
    · skip
      have c4 := Classical.not_not.mp (fun h9 => c4 (mb_0.mpr h9))
      refine lv_aload_n hx hb dX2_drawersApart_34 rfl (lv_at hl 4 rfl) ?_
      refine lv_iload hx hb dX2_drawersApart_35 (lv_at hl 0 rfl) ?_
      refine mx_iald hx hb hN hE (S_w hw1 rfl) (j := 16 + d) rfl (by omega) (by decide) dX2_drawersApart_37 ?_
      refine lv_aload_n hx hb dX2_drawersApart_38 rfl (lv_at hl 5 rfl) ?_
      refine lv_iload hx hb dX2_drawersApart_39 (lv_at hl 0 rfl) ?_
      refine mx_iald hx hb hN hE (S_w hw2 rfl) (j := 16 + d) rfl (by omega) (by decide) dX2_drawersApart_41 ?_
      refine lv_icmp_eq (tgt := 52) hx hb dX2_drawersApart_42 (by decide) (fun c5 => ?_) (fun c5 => ?_)
      · skip
        have e9 : mDr (mLook (v w1) (v w2) 15) (v w1) (v w2) d = mDr (mLook (v w1) (v w2) 15) (v w1) (v w2) (d + 1) := by simp only [mDr]; rw [if_neg (fun h9 => by first | exact c5 h9.1 | exact h9.2 c5)]
        rw [e9] at hl
        refine lv_iinc (v := nI (d + 1)) (lv' := [(4, .int (nI (d + 1))), (5, .int (nI (16 + d))), (3, .int (nI (mDr (mLook (v w1) (v w2) 15) (v w1) (v w2) (d + 1)))), (2, .int (nI (mLook (v w1) (v w2) 15))), (0, .ref (ad w1)), (1, .ref (ad w2))]) hx hb dX2_drawersApart_52 hl (k := 1) rfl (nI_add _ _) (by decide) rfl (fun ls hl => ?_)
        refine lv_goto (tgt := 11) hx hb dX2_drawersApart_55 (by decide) ?_
        exact ih1 (16 - (d + 1)) (d + 1) _ _ _ (by rw [hn2]; omega) ⟨rfl, (by omega), hE, lv_sub hl [0, 2, 3, 4, 5] rfl⟩
      · skip
        refine lv_iload_n hx hb dX2_drawersApart_45 rfl (lv_at hl 2 rfl) ?_
        refine lv_iconst (v := nI 1) hx hb dX2_drawersApart_46 (by decide) ?_
        refine lv_iload hx hb dX2_drawersApart_47 (lv_at hl 1 rfl) ?_
        refine mv_ishl (z := nI (1 * 2 ^ d)) hx hb (pk_shlN _ _ (mu_l _ (by omega)) (by have : 2 ^ d < 2 ^ 16 := Nat.pow_lt_pow_right (by decide) (by omega); omega)) dX2_drawersApart_49 ?_
        refine mv_ior (z := nI (mDr (mLook (v w1) (v w2) 15) (v w1) (v w2) d ||| 1 * 2 ^ d)) hx hb (mu_or _ _) dX2_drawersApart_50 ?_
        refine lv_istore_n (lv' := [(3, .int (nI (mDr (mLook (v w1) (v w2) 15) (v w1) (v w2) d ||| 1 * 2 ^ d))), (5, .int (nI (16 + d))), (4, .int (nI d)), (2, .int (nI (mLook (v w1) (v w2) 15))), (0, .ref (ad w1)), (1, .ref (ad w2))]) hx hb dX2_drawersApart_51 rfl hl (by decide) rfl (fun ls hl => ?_)
        have e9 : mDr (mLook (v w1) (v w2) 15) (v w1) (v w2) d ||| 1 * 2 ^ d = mDr (mLook (v w1) (v w2) 15) (v w1) (v w2) (d + 1) := by simp only [mDr]; rw [if_pos ⟨c4, c5⟩]
        rw [e9] at hl
        refine lv_iinc (v := nI (d + 1)) (lv' := [(4, .int (nI (d + 1))), (3, .int (nI (mDr (mLook (v w1) (v w2) 15) (v w1) (v w2) (d + 1)))), (5, .int (nI (16 + d))), (2, .int (nI (mLook (v w1) (v w2) 15))), (0, .ref (ad w1)), (1, .ref (ad w2))]) hx hb dX2_drawersApart_52 hl (k := 2) rfl (nI_add _ _) (by decide) rfl (fun ls hl => ?_)
        refine lv_goto (tgt := 11) hx hb dX2_drawersApart_55 (by decide) ?_
        exact ih1 (16 - (d + 1)) (d + 1) _ _ _ (by rw [hn2]; omega) ⟨rfl, (by omega), hE, lv_sub hl [0, 1, 3, 4, 5] rfl⟩

set_option maxHeartbeats 4000000 in
set_option maxRecDepth 100000 in
/-- seals of a cupboard -/
theorem c_X2_sealsOf (l : Launch) (G : va_G) (cy : Nat → ClassId) (ad : Nat → Nat) (n k : Nat) (v : Nat → Nat → Int32) (o : mC) (hn : n ≤ 6) (hk : k ≤ 20) (sz : Nat) (x : Int32) : mMi l yX2_sealsOf wsX2_sealsOf ({ frames := 7, cells := 0, slots := 0, locals := 100 }) G cy ad (Sy cy ad n k v o) sz [.ref (ad 0), .int x] 0 0 (fun (r : Int32) u => r = nI (mSof v x k) ∧ u = (ad, Sy cy ad n k v o)) := by
  refine Met.ofW (cc := cX2_sealsOf) (maxL := 4) (ret := (some .int)) (by decide) rfl ?_
  intro p e s m args below meth c s₁ B hml hv
  obtain ⟨rfl, hv⟩ := hv
  have hsz := hv.1
  subst hsz
  have hN := hv.2.2
  have hE := mP_E hv
  have hx := B.exec
  have hb := B.bytes
  have hr := B.returns
  have hts := atoms_spec (ws := wsX2_sealsOf) B.pre
  have hown : s.vm.findClass RX2 = some m.cls := findClass_of_methodNamed B.named
  have hlocks := B.notSynchronized
  have hiX2 : ∀ w ∈ wsX20, w ∈ wsX2_sealsOf := by decide +kernel
  have hiX1 : ∀ w ∈ wsX10, w ∈ wsX2_sealsOf := by decide +kernel
  have hl := lv_entry ([.ref (ad 0), .int x]) (n := 4) (Nat.le_of_ble_eq_true rfl)
  rw [lg_entry_eq]
  generalize (lg_sl ([.ref (ad 0), .int x]) ++ List.replicate (4 - (lg_sl ([.ref (ad 0), .int x])).length) Slot.unset).toArray = ls at hl ⊢
  have hl : lv_has ls 4 [(0, .ref (ad 0)), (1, .int x)] := hl
  refine lv_iconst (v := nI 0) hx hb dX2_sealsOf_0 (by decide) ?_
  refine lv_istore_n (lv' := [(2, .int (nI 0)), (0, .ref (ad 0)), (1, .int x)]) hx hb dX2_sealsOf_1 rfl hl (by decide) rfl (fun ls hl => ?_)
  refine lv_iconst (v := nI 0) hx hb dX2_sealsOf_2 (by decide) ?_
  refine lv_istore_n (lv' := [(3, .int (nI 0)), (2, .int (nI 0)), (0, .ref (ad 0)), (1, .int x)]) hx hb dX2_sealsOf_3 rfl hl (by decide) rfl (fun ls hl => ?_)
  refine mx_loop (β := Nat) (fun n9 (j : Nat) H locs ls => n9 = k - j ∧ (j ≤ k) ∧ mE G (mA ad (Sy cy ad n k v o) s.heap.size) s.heap ad (Sy cy ad n k v o) H locs ∧ lv_has ls 4 [(3, .int (nI j)), (2, .int (nI (mSof v x j))), (0, .ref (ad 0)), (1, .int x)]) ?_ (k - 0) (0) _ _ _ ⟨rfl, (by omega), hE, lv_sub hl [0, 1, 2, 3] rfl⟩
  intro n9 j H locs ls hI ih1
  obtain ⟨hn2, hle, hE, hl⟩ := hI
  have hbd := mSof_le v x j
  have hE : mE G (mA ad (Sy cy ad n k v o) s.heap.size) s.heap ad (Sy cy ad n k v o) H locs := hE
  have hl : lv_has ls 4 [(3, .int (nI j)), (2, .int (nI (mSof v x j))), (0, .ref (ad 0)), (1, .int x)] := hl
  refine lv_iload_n hx hb dX2_sealsOf_4 rfl (lv_at hl 0 rfl) ?_
  refine lv_aload_n hx hb dX2_sealsOf_5 rfl (lv_at hl 2 rfl) ?_
  refine va_get (D := G) (ci := 2) (v := .int (nI k)) (C := RX2) (T := TX2) (N := 5) hx hb hts hiX2 hown hN.1 (mE_P1 hE S_0) 0 rfl rfl 4 (by decide) (hts (.fieldLink RX2 97 "SealedCupboards" "sealCount" "I") (by decide +kernel)) (fun _ h9 => h9) rfl dX2_sealsOf_6 ?_
  refine mv_ge (tgt := 34) hx hb (by omega) (by omega) dX2_sealsOf_9 (by decide) (fun c3 => ?_) (fun c3 => ?_)
  · skip
    refine lv_iload_n hx hb dX2_sealsOf_34 rfl (lv_at hl 1 rfl) ?_
    exact mx_iret hx hb hr hE hlocks ⟨by rw [show j = k by omega], rfl⟩ dX2_sealsOf_35
  · skip
    have h_j : j < k := c3
    refine lv_aload_n hx hb dX2_sealsOf_12 rfl (lv_at hl 2 rfl) ?_
    refine va_get (D := G) (ci := 2) (v := .ref (ad 2)) (C := RX2) (T := TX2) (N := 5) hx hb hts hiX2 hown hN.1 (mE_P1 hE S_0) 0 rfl rfl 1 (by decide) (hts (.fieldLink RX2 17 "SealedCupboards" "seals" "[LSealedCupboards$Seal;") (by decide +kernel)) (fun _ h9 => h9) rfl dX2_sealsOf_13 ?_
    refine lv_iload_n hx hb dX2_sealsOf_16 rfl (lv_at hl 0 rfl) ?_
    refine mx_aald (t := 2) hx hb hN hE S_2 rfl (j := j) rfl (by omega) (by decide) (S_2at h_j) dX2_sealsOf_17 ?_
    refine va_getN (D := G) (ci := 1) (v := .int (v (400 + j) 0)) (C := RX1) (T := TX1) (N := 3) (host := RX2) hx hb hts hiX1 hown hN.1 (mE_P1 hE (S_soe hn h_j rfl)) 0 rfl rfl 0 (by decide) (va_Nw.use rfl (hN.2.1 (.fieldLinkNest RX2 109 RX1 "cupboard" "I" RX2) (by decide +kernel))) (fun _ h9 => h9) rfl dX2_sealsOf_18 ?_
    refine lv_iload_n hx hb dX2_sealsOf_21 rfl (lv_at hl 3 rfl) ?_
    refine lv_icmp_ne (tgt := 28) hx hb dX2_sealsOf_22 (by decide) (fun c4 => ?_) (fun c4 => ?_)
    · skip
      have e9 : mSof v x j = mSof v x (j + 1) := by simp only [mSof]; rw [if_neg c4]; rfl
      rw [e9] at hl
      refine lv_iinc (v := nI (j + 1)) (lv' := [(3, .int (nI (j + 1))), (2, .int (nI (mSof v x (j + 1)))), (0, .ref (ad 0)), (1, .int x)]) hx hb dX2_sealsOf_28 hl (k := 0) rfl (nI_add _ _) (by decide) rfl (fun ls hl => ?_)
      refine lv_goto (tgt := 4) hx hb dX2_sealsOf_31 (by decide) ?_
      exact ih1 (k - (j + 1)) (j + 1) _ _ _ (by rw [hn2]; omega) ⟨rfl, (by omega), hE, lv_sub hl [0, 1, 2, 3] rfl⟩
    · skip
      refine lv_iinc (v := nI ((mSof v x j) + 1)) (lv' := [(2, .int (nI ((mSof v x j) + 1))), (3, .int (nI j)), (0, .ref (ad 0)), (1, .int x)]) hx hb dX2_sealsOf_25 hl (k := 1) rfl (nI_add _ _) (by decide) rfl (fun ls hl => ?_)
      have e9 : mSof v x j + 1 = mSof v x (j + 1) := by simp only [mSof]; rw [if_pos c4]
      rw [e9] at hl
      refine lv_iinc (v := nI (j + 1)) (lv' := [(3, .int (nI (j + 1))), (2, .int (nI (mSof v x (j + 1)))), (0, .ref (ad 0)), (1, .int x)]) hx hb dX2_sealsOf_28 hl (k := 1) rfl (nI_add _ _) (by decide) rfl (fun ls hl => ?_)
      refine lv_goto (tgt := 4) hx hb dX2_sealsOf_31 (by decide) ?_
      exact ih1 (k - (j + 1)) (j + 1) _ _ _ (by rw [hn2]; omega) ⟨rfl, (by omega), hE, lv_sub hl [0, 1, 2, 3] rfl⟩

set_option maxHeartbeats 4000000 in
set_option maxRecDepth 100000 in
/-- seals that a cupboard keeps -/
theorem c_X2_sealsKept (l : Launch) (G : va_G) (cy : Nat → ClassId) (ad : Nat → Nat) (n k : Nat) (v : Nat → Nat → Int32) (o : mC) (hn : n ≤ 6) (hk : k ≤ 20) (sz : Nat) (x y : Int32) : mMi l yX2_sealsKept wsX2_sealsKept ({ frames := 7, cells := 0, slots := 0, locals := 100 }) G cy ad (Sy cy ad n k v o) sz [.ref (ad 0), .int x, .int y] 0 0 (fun (r : Int32) u => r = nI (mSkp v x y k) ∧ u = (ad, Sy cy ad n k v o)) := by
  refine Met.ofW (cc := cX2_sealsKept) (maxL := 5) (ret := (some .int)) (by decide) rfl ?_
  intro p e s m args below meth c s₁ B hml hv
  obtain ⟨rfl, hv⟩ := hv
  have hsz := hv.1
  subst hsz
  have hN := hv.2.2
  have hE := mP_E hv
  have hx := B.exec
  have hb := B.bytes
  have hr := B.returns
  have hts := atoms_spec (ws := wsX2_sealsKept) B.pre
  have hown : s.vm.findClass RX2 = some m.cls := findClass_of_methodNamed B.named
  have hlocks := B.notSynchronized
  have hiX2 : ∀ w ∈ wsX20, w ∈ wsX2_sealsKept := by decide +kernel
  have hiX1 : ∀ w ∈ wsX10, w ∈ wsX2_sealsKept := by decide +kernel
  have hl := lv_entry ([.ref (ad 0), .int x, .int y]) (n := 5) (Nat.le_of_ble_eq_true rfl)
  rw [lg_entry_eq]
  generalize (lg_sl ([.ref (ad 0), .int x, .int y]) ++ List.replicate (5 - (lg_sl ([.ref (ad 0), .int x, .int y])).length) Slot.unset).toArray = ls at hl ⊢
  have hl : lv_has ls 5 [(0, .ref (ad 0)), (1, .int x), (2, .int y)] := hl
  refine lv_iconst (v := nI 0) hx hb dX2_sealsKept_0 (by decide) ?_
  refine lv_istore_n (lv' := [(3, .int (nI 0)), (0, .ref (ad 0)), (1, .int x), (2, .int y)]) hx hb dX2_sealsKept_1 rfl hl (by decide) rfl (fun ls hl => ?_)
  refine lv_iconst (v := nI 0) hx hb dX2_sealsKept_2 (by decide) ?_
  refine lv_istore (lv' := [(4, .int (nI 0)), (3, .int (nI 0)), (0, .ref (ad 0)), (1, .int x), (2, .int y)]) hx hb dX2_sealsKept_3 hl (by decide) rfl (fun ls hl => ?_)
  refine mx_loop (β := Nat) (fun n9 (j : Nat) H locs ls => n9 = k - j ∧ (j ≤ k) ∧ mE G (mA ad (Sy cy ad n k v o) s.heap.size) s.heap ad (Sy cy ad n k v o) H locs ∧ lv_has ls 5 [(4, .int (nI j)), (3, .int (nI (mSkp v x y j))), (0, .ref (ad 0)), (1, .int x), (2, .int y)]) ?_ (k - 0) (0) _ _ _ ⟨rfl, (by omega), hE, lv_sub hl [0, 1, 2, 3, 4] rfl⟩
  intro n9 j H locs ls hI ih1
  obtain ⟨hn2, hle, hE, hl⟩ := hI
  have hbd := mSkp_le v x y j
  have hE : mE G (mA ad (Sy cy ad n k v o) s.heap.size) s.heap ad (Sy cy ad n k v o) H locs := hE
  have hl : lv_has ls 5 [(4, .int (nI j)), (3, .int (nI (mSkp v x y j))), (0, .ref (ad 0)), (1, .int x), (2, .int y)] := hl
  refine lv_iload hx hb dX2_sealsKept_5 (lv_at hl 0 rfl) ?_
  refine lv_aload_n hx hb dX2_sealsKept_7 rfl (lv_at hl 2 rfl) ?_
  refine va_get (D := G) (ci := 2) (v := .int (nI k)) (C := RX2) (T := TX2) (N := 5) hx hb hts hiX2 hown hN.1 (mE_P1 hE S_0) 0 rfl rfl 4 (by decide) (hts (.fieldLink RX2 97 "SealedCupboards" "sealCount" "I") (by decide +kernel)) (fun _ h9 => h9) rfl dX2_sealsKept_8 ?_
  refine mv_ge (tgt := 51) hx hb (by omega) (by omega) dX2_sealsKept_11 (by decide) (fun c3 => ?_) (fun c3 => ?_)
  · skip
    refine lv_iload_n hx hb dX2_sealsKept_51 rfl (lv_at hl 1 rfl) ?_
    exact mx_iret hx hb hr hE hlocks ⟨by rw [show j = k by omega], rfl⟩ dX2_sealsKept_52
  · skip
    have h_j : j < k := c3
    refine lv_aload_n hx hb dX2_sealsKept_14 rfl (lv_at hl 2 rfl) ?_
    refine va_get (D := G) (ci := 2) (v := .ref (ad 2)) (C := RX2) (T := TX2) (N := 5) hx hb hts hiX2 hown hN.1 (mE_P1 hE S_0) 0 rfl rfl 1 (by decide) (hts (.fieldLink RX2 17 "SealedCupboards" "seals" "[LSealedCupboards$Seal;") (by decide +kernel)) (fun _ h9 => h9) rfl dX2_sealsKept_15 ?_
    refine lv_iload hx hb dX2_sealsKept_18 (lv_at hl 0 rfl) ?_
    refine mx_aald (t := 2) hx hb hN hE S_2 rfl (j := j) rfl (by omega) (by decide) (S_2at h_j) dX2_sealsKept_20 ?_
    refine va_getN (D := G) (ci := 1) (v := .int (v (400 + j) 0)) (C := RX1) (T := TX1) (N := 3) (host := RX2) hx hb hts hiX1 hown hN.1 (mE_P1 hE (S_soe hn h_j rfl)) 0 rfl rfl 0 (by decide) (va_Nw.use rfl (hN.2.1 (.fieldLinkNest RX2 109 RX1 "cupboard" "I" RX2) (by decide +kernel))) (fun _ h9 => h9) rfl dX2_sealsKept_21 ?_
    refine lv_iload_n hx hb dX2_sealsKept_24 rfl (lv_at hl 3 rfl) ?_
    refine lv_icmp_ne (tgt := 45) hx hb dX2_sealsKept_25 (by decide) (fun c4 => ?_) (fun c4 => ?_)
    · skip
      have e9 : mSkp v x y j = mSkp v x y (j + 1) := by simp only [mSkp]; rw [if_neg (fun h9 => by first | exact c4 h9.1 | exact c4 h9.2)]; rfl
      rw [e9] at hl
      refine lv_iinc (v := nI (j + 1)) (lv' := [(4, .int (nI (j + 1))), (3, .int (nI (mSkp v x y (j + 1)))), (0, .ref (ad 0)), (1, .int x), (2, .int y)]) hx hb dX2_sealsKept_45 hl (k := 0) rfl (nI_add _ _) (by decide) rfl (fun ls hl => ?_)
      refine lv_goto (tgt := 5) hx hb dX2_sealsKept_48 (by decide) ?_
      exact ih1 (k - (j + 1)) (j + 1) _ _ _ (by rw [hn2]; omega) ⟨rfl, (by omega), hE, lv_sub hl [0, 1, 2, 3, 4] rfl⟩
    · skip
      refine lv_aload_n hx hb dX2_sealsKept_28 rfl (lv_at hl 2 rfl) ?_
      refine va_get (D := G) (ci := 2) (v := .ref (ad 2)) (C := RX2) (T := TX2) (N := 5) hx hb hts hiX2 hown hN.1 (mE_P1 hE S_0) 0 rfl rfl 1 (by decide) (hts (.fieldLink RX2 17 "SealedCupboards" "seals" "[LSealedCupboards$Seal;") (by decide +kernel)) (fun _ h9 => h9) rfl dX2_sealsKept_29 ?_
      refine lv_iload hx hb dX2_sealsKept_32 (lv_at hl 0 rfl) ?_
      refine mx_aald (t := 2) hx hb hN hE S_2 rfl (j := j) rfl (by omega) (by decide) (S_2at h_j) dX2_sealsKept_34 ?_
      refine va_getN (D := G) (ci := 1) (v := .int (v (400 + j) 1)) (C := RX1) (T := TX1) (N := 3) (host := RX2) hx hb hts hiX1 hown hN.1 (mE_P1 hE (S_soe hn h_j rfl)) 0 rfl rfl 1 (by decide) (va_Nw.use rfl (hN.2.1 (.fieldLinkNest RX2 112 RX1 "root" "I" RX2) (by decide +kernel))) (fun _ h9 => h9) rfl dX2_sealsKept_35 ?_
      refine lv_iload_n hx hb dX2_sealsKept_38 rfl (lv_at hl 4 rfl) ?_
      refine lv_icmp_ne (tgt := 45) hx hb dX2_sealsKept_39 (by decide) (fun c5 => ?_) (fun c5 => ?_)
      · skip
        have e9 : mSkp v x y j = mSkp v x y (j + 1) := by simp only [mSkp]; rw [if_neg (fun h9 => by first | exact c5 h9.1 | exact c5 h9.2)]; rfl
        rw [e9] at hl
        refine lv_iinc (v := nI (j + 1)) (lv' := [(4, .int (nI (j + 1))), (3, .int (nI (mSkp v x y (j + 1)))), (0, .ref (ad 0)), (1, .int x), (2, .int y)]) hx hb dX2_sealsKept_45 hl (k := 0) rfl (nI_add _ _) (by decide) rfl (fun ls hl => ?_)
        refine lv_goto (tgt := 5) hx hb dX2_sealsKept_48 (by decide) ?_
        exact ih1 (k - (j + 1)) (j + 1) _ _ _ (by rw [hn2]; omega) ⟨rfl, (by omega), hE, lv_sub hl [0, 1, 2, 3, 4] rfl⟩
      · skip
        refine lv_iinc (v := nI ((mSkp v x y j) + 1)) (lv' := [(3, .int (nI ((mSkp v x y j) + 1))), (4, .int (nI j)), (0, .ref (ad 0)), (1, .int x), (2, .int y)]) hx hb dX2_sealsKept_42 hl (k := 1) rfl (nI_add _ _) (by decide) rfl (fun ls hl => ?_)
        have e9 : mSkp v x y j + 1 = mSkp v x y (j + 1) := by simp only [mSkp]; rw [if_pos ⟨c4, c5⟩]
        rw [e9] at hl
        refine lv_iinc (v := nI (j + 1)) (lv' := [(4, .int (nI (j + 1))), (3, .int (nI (mSkp v x y (j + 1)))), (0, .ref (ad 0)), (1, .int x), (2, .int y)]) hx hb dX2_sealsKept_45 hl (k := 1) rfl (nI_add _ _) (by decide) rfl (fun ls hl => ?_)
        refine lv_goto (tgt := 5) hx hb dX2_sealsKept_48 (by decide) ?_
        exact ih1 (k - (j + 1)) (j + 1) _ _ _ (by rw [hn2]; omega) ⟨rfl, (by omega), hE, lv_sub hl [0, 1, 2, 3, 4] rfl⟩

set_option maxHeartbeats 4000000 in
set_option maxRecDepth 100000 in
/-- whether an earlier one has this root -/
theorem c_X2_isRootBefore (l : Launch) (G : va_G) (cy : Nat → ClassId) (ad : Nat → Nat) (n k : Nat) (v : Nat → Nat → Int32) (o : mC) (hn : n ≤ 6) (hk : k ≤ 20) (sz : Nat) (cu : Nat) (h_cu : cu < n) : mMi l yX2_isRootBefore wsX2_isRootBefore ({ frames := 8, cells := 0, slots := 0, locals := 140 }) G cy ad (Sy cy ad n k v o) sz [.ref (ad 0), .int (nI cu)] 0 0 (fun (r : Int32) u => r = mb (mHas v (v (300 + cu) 1) cu = true) ∧ u = (ad, Sy cy ad n k v o)) := by
  refine Met.ofW (cc := cX2_isRootBefore) (maxL := 3) (ret := (some .boolean)) (by decide) rfl ?_
  intro p e s m args below meth c s₁ B hml hv
  obtain ⟨rfl, hv⟩ := hv
  have hsz := hv.1
  subst hsz
  have hN := hv.2.2
  have hE := mP_E hv
  have hx := B.exec
  have hb := B.bytes
  have hr := B.returns
  have hts := atoms_spec (ws := wsX2_isRootBefore) B.pre
  have hown : s.vm.findClass RX2 = some m.cls := findClass_of_methodNamed B.named
  have hlocks := B.notSynchronized
  have hiX2 : ∀ w ∈ wsX20, w ∈ wsX2_isRootBefore := by decide +kernel
  have hiX0 : ∀ w ∈ wsX00, w ∈ wsX2_isRootBefore := by decide +kernel
  have hl := lv_entry ([.ref (ad 0), .int (nI cu)]) (n := 3) (Nat.le_of_ble_eq_true rfl)
  rw [lg_entry_eq]
  generalize (lg_sl ([.ref (ad 0), .int (nI cu)]) ++ List.replicate (3 - (lg_sl ([.ref (ad 0), .int (nI cu)])).length) Slot.unset).toArray = ls at hl ⊢
  have hl : lv_has ls 3 [(0, .ref (ad 0)), (1, .int (nI cu))] := hl
  refine lv_iconst (v := nI 0) hx hb dX2_isRootBefore_0 (by decide) ?_
  refine lv_istore_n (lv' := [(2, .int (nI 0)), (0, .ref (ad 0)), (1, .int (nI cu))]) hx hb dX2_isRootBefore_1 rfl hl (by decide) rfl (fun ls hl => ?_)
  refine mx_loop (β := Nat) (fun n9 (i : Nat) H locs ls => n9 = cu - i ∧ (i ≤ cu ∧ ∀ e, e < i → ¬ v (300 + e) 1 = v (300 + cu) 1) ∧ mE G (mA ad (Sy cy ad n k v o) s.heap.size) s.heap ad (Sy cy ad n k v o) H locs ∧ lv_has ls 3 [(2, .int (nI i)), (0, .ref (ad 0)), (1, .int (nI cu))]) ?_ (cu - 0) (0) _ _ _ ⟨rfl, ⟨by omega, fun e h => absurd h (Nat.not_lt_zero e)⟩, hE, lv_sub hl [0, 1, 2] rfl⟩
  intro n9 i H locs ls hI ih1
  obtain ⟨hn2, ⟨hle, hno⟩, hE, hl⟩ := hI
  have hE : mE G (mA ad (Sy cy ad n k v o) s.heap.size) s.heap ad (Sy cy ad n k v o) H locs := hE
  have hl : lv_has ls 3 [(2, .int (nI i)), (0, .ref (ad 0)), (1, .int (nI cu))] := hl
  refine lv_iload_n hx hb dX2_isRootBefore_2 rfl (lv_at hl 0 rfl) ?_
  refine lv_iload_n hx hb dX2_isRootBefore_3 rfl (lv_at hl 2 rfl) ?_
  refine mv_ge (tgt := 36) hx hb (by omega) (by omega) dX2_isRootBefore_4 (by decide) (fun c3 => ?_) (fun c3 => ?_)
  · skip
    refine lv_iconst (v := nI 0) hx hb dX2_isRootBefore_36 (by decide) ?_
    exact mx_zret hx hb hr rfl hE hlocks ⟨(mb_f (fun h9 => by obtain ⟨e, h1, h2⟩ := (mHas_iff v _ cu).mp h9; exact hno e (by omega) h2)).symm, rfl⟩ dX2_isRootBefore_37
  · skip
    have h_i : i < n := by omega
    refine lv_aload_n hx hb dX2_isRootBefore_7 rfl (lv_at hl 1 rfl) ?_
    refine va_get (D := G) (ci := 2) (v := .ref (ad 1)) (C := RX2) (T := TX2) (N := 5) hx hb hts hiX2 hown hN.1 (mE_P1 hE S_0) 0 rfl rfl 0 (by decide) (hts (.fieldLink RX2 11 "SealedCupboards" "cupboards" "[LSealedCupboards$Cupboard;") (by decide +kernel)) (fun _ h9 => h9) rfl dX2_isRootBefore_8 ?_
    refine lv_iload_n hx hb dX2_isRootBefore_11 rfl (lv_at hl 0 rfl) ?_
    refine mx_aald (t := 1) hx hb hN hE S_1 rfl (j := i) rfl (by omega) (by decide) (S_1at h_i) dX2_isRootBefore_12 ?_
    refine va_calli (va_runVN (As := []) (rest := []) ⟨hx, hb, hml, hown, hts⟩ (c_X0_root l G cy ad n k v o hn hk _ i h_i) ⟨va_cnB 0 hts gX2_isRootBefore_X0_root_n76 rfl rfl rfl (hN.2.1 (.methodLinkNest RX2 76 yX0_root RX2) (by decide +kernel)) (hts (.initialized RX0) (by decide +kernel)) (by decide +kernel) ⟨Nat.le_of_ble_eq_true rfl, Nat.le_of_ble_eq_true rfl⟩, (hts (.instanceMethod yX0_root) (by decide +kernel)), (hts (.selects RX0 yX0_root yX0_root) (by decide +kernel))⟩ (mP_V (r := (RX0, TX0, 3)) hN hE (S_ce hn h_i rfl) rfl) rfl rfl hl.1 rfl (lv_room (Nat.le_of_ble_eq_true rfl)) dX2_isRootBefore_13 ⟨Nat.le_of_ble_eq_true rfl, Nat.le_of_ble_eq_true rfl⟩) hE.2.2.2 (fun q _ h => mE_A hE q h) (mE_A hE) (fun r uq tq H locs ht hvm hw hB hz1 hk1 hS => ?_)
    obtain ⟨rfl, rfl⟩ := hw
    have hE : mE G (mA ad (Sy cy ad n k v o) s.heap.size) s.heap ad (Sy cy ad n k v o) H locs := mE_call hE hB ht hS
    refine lv_aload_n hx hb dX2_isRootBefore_16 rfl (lv_at hl 1 rfl) ?_
    refine va_get (D := G) (ci := 2) (v := .ref (ad 1)) (C := RX2) (T := TX2) (N := 5) hx hb hts hiX2 hown hN.1 (mE_P1 hE S_0) 0 rfl rfl 0 (by decide) (hts (.fieldLink RX2 11 "SealedCupboards" "cupboards" "[LSealedCupboards$Cupboard;") (by decide +kernel)) (fun _ h9 => h9) rfl dX2_isRootBefore_17 ?_
    refine lv_iload_n hx hb dX2_isRootBefore_20 rfl (lv_at hl 2 rfl) ?_
    refine mx_aald (t := 1) hx hb hN hE S_1 rfl (j := cu) rfl (by omega) (by decide) (S_1at h_cu) dX2_isRootBefore_21 ?_
    refine va_calli (va_runVN (As := []) (rest := [.int (v (300 + i) 1)]) ⟨hx, hb, hml, hown, hts⟩ (c_X0_root l G cy ad n k v o hn hk _ cu h_cu) ⟨va_cnB 0 hts gX2_isRootBefore_X0_root_n76 rfl rfl rfl (hN.2.1 (.methodLinkNest RX2 76 yX0_root RX2) (by decide +kernel)) (hts (.initialized RX0) (by decide +kernel)) (by decide +kernel) ⟨Nat.le_of_ble_eq_true rfl, Nat.le_of_ble_eq_true rfl⟩, (hts (.instanceMethod yX0_root) (by decide +kernel)), (hts (.selects RX0 yX0_root yX0_root) (by decide +kernel))⟩ (mP_V (r := (RX0, TX0, 3)) hN hE (S_ce hn h_cu rfl) rfl) rfl rfl hl.1 rfl (lv_room (Nat.le_of_ble_eq_true rfl)) dX2_isRootBefore_22 ⟨Nat.le_of_ble_eq_true rfl, Nat.le_of_ble_eq_true rfl⟩) hE.2.2.2 (fun q _ h => mE_A hE q h) (mE_A hE) (fun r uq tq H locs ht hvm hw hB hz1 hk1 hS => ?_)
    obtain ⟨rfl, rfl⟩ := hw
    have hE : mE G (mA ad (Sy cy ad n k v o) s.heap.size) s.heap ad (Sy cy ad n k v o) H locs := mE_call hE hB ht hS
    refine lv_icmp_ne (tgt := 30) hx hb dX2_isRootBefore_25 (by decide) (fun c4 => ?_) (fun c4 => ?_)
    · skip
      refine lv_iinc (v := nI (i + 1)) (lv' := [(2, .int (nI (i + 1))), (0, .ref (ad 0)), (1, .int (nI cu))]) hx hb dX2_isRootBefore_30 hl (k := 0) rfl (nI_add _ _) (by decide) rfl (fun ls hl => ?_)
      refine lv_goto (tgt := 2) hx hb dX2_isRootBefore_33 (by decide) ?_
      exact ih1 (cu - (i + 1)) (i + 1) _ _ _ (by rw [hn2]; omega) ⟨rfl, ⟨by omega, fun e h => if h9 : e = i then by rw [h9]; exact c4 else hno e (by omega)⟩, hE, lv_sub hl [0, 1, 2] rfl⟩
    · skip
      refine lv_iconst (v := nI 1) hx hb dX2_isRootBefore_28 (by decide) ?_
      exact mx_zret hx hb hr rfl hE hlocks ⟨(mb_t ((mHas_iff v _ cu).mpr ⟨i, c3, c4⟩)).symm, rfl⟩ dX2_isRootBefore_29

set_option maxHeartbeats 4000000 in
set_option maxRecDepth 100000 in
/-- different roots -/
theorem c_X2_differentRoots (l : Launch) (G : va_G) (cy : Nat → ClassId) (ad : Nat → Nat) (n k : Nat) (v : Nat → Nat → Int32) (o : mC) (hn : n ≤ 6) (hk : k ≤ 20) (sz : Nat) : mMi l yX2_differentRoots wsX2_differentRoots ({ frames := 9, cells := 0, slots := 0, locals := 180 }) G cy ad (Sy cy ad n k v o) sz [.ref (ad 0)] 0 0 (fun (r : Int32) u => r = nI (mDif v n) ∧ u = (ad, Sy cy ad n k v o)) := by
  refine Met.ofW (cc := cX2_differentRoots) (maxL := 3) (ret := (some .int)) (by decide) rfl ?_
  intro p e s m args below meth c s₁ B hml hv
  obtain ⟨rfl, hv⟩ := hv
  have hsz := hv.1
  subst hsz
  have hN := hv.2.2
  have hE := mP_E hv
  have hx := B.exec
  have hb := B.bytes
  have hr := B.returns
  have hts := atoms_spec (ws := wsX2_differentRoots) B.pre
  have hown : s.vm.findClass RX2 = some m.cls := findClass_of_methodNamed B.named
  have hlocks := B.notSynchronized
  have hiX2 : ∀ w ∈ wsX20, w ∈ wsX2_differentRoots := by decide +kernel
  have hl := lv_entry ([.ref (ad 0)]) (n := 3) (Nat.le_of_ble_eq_true rfl)
  rw [lg_entry_eq]
  generalize (lg_sl ([.ref (ad 0)]) ++ List.replicate (3 - (lg_sl ([.ref (ad 0)])).length) Slot.unset).toArray = ls at hl ⊢
  have hl : lv_has ls 3 [(0, .ref (ad 0))] := hl
  refine lv_iconst (v := nI 0) hx hb dX2_differentRoots_0 (by decide) ?_
  refine lv_istore_n (lv' := [(1, .int (nI 0)), (0, .ref (ad 0))]) hx hb dX2_differentRoots_1 rfl hl (by decide) rfl (fun ls hl => ?_)
  refine lv_iconst (v := nI 0) hx hb dX2_differentRoots_2 (by decide) ?_
  refine lv_istore_n (lv' := [(2, .int (nI 0)), (1, .int (nI 0)), (0, .ref (ad 0))]) hx hb dX2_differentRoots_3 rfl hl (by decide) rfl (fun ls hl => ?_)
  refine mx_loop (β := Nat) (fun n9 (i : Nat) H locs ls => n9 = n - i ∧ (i ≤ n) ∧ mE G (mA ad (Sy cy ad n k v o) s.heap.size) s.heap ad (Sy cy ad n k v o) H locs ∧ lv_has ls 3 [(2, .int (nI i)), (1, .int (nI (mDif v i))), (0, .ref (ad 0))]) ?_ (n - 0) (0) _ _ _ ⟨rfl, (by omega), hE, lv_sub hl [0, 1, 2] rfl⟩
  intro n9 i H locs ls hI ih1
  obtain ⟨hn2, hle, hE, hl⟩ := hI
  have hbd := mDif_le v i
  have hE : mE G (mA ad (Sy cy ad n k v o) s.heap.size) s.heap ad (Sy cy ad n k v o) H locs := hE
  have hl : lv_has ls 3 [(2, .int (nI i)), (1, .int (nI (mDif v i))), (0, .ref (ad 0))] := hl
  refine lv_iload_n hx hb dX2_differentRoots_4 rfl (lv_at hl 0 rfl) ?_
  refine lv_aload_n hx hb dX2_differentRoots_5 rfl (lv_at hl 2 rfl) ?_
  refine va_get (D := G) (ci := 2) (v := .int (nI n)) (C := RX2) (T := TX2) (N := 5) hx hb hts hiX2 hown hN.1 (mE_P1 hE S_0) 0 rfl rfl 3 (by decide) (hts (.fieldLink RX2 25 "SealedCupboards" "cupboardCount" "I") (by decide +kernel)) (fun _ h9 => h9) rfl dX2_differentRoots_6 ?_
  refine mv_ge (tgt := 29) hx hb (by omega) (by omega) dX2_differentRoots_9 (by decide) (fun c3 => ?_) (fun c3 => ?_)
  · skip
    refine lv_iload_n hx hb dX2_differentRoots_29 rfl (lv_at hl 1 rfl) ?_
    exact mx_iret hx hb hr hE hlocks ⟨by rw [show i = n by omega], rfl⟩ dX2_differentRoots_30
  · skip
    have h_i : i < n := c3
    refine lv_aload_n hx hb dX2_differentRoots_12 rfl (lv_at hl 2 rfl) ?_
    refine lv_iload_n hx hb dX2_differentRoots_13 rfl (lv_at hl 0 rfl) ?_
    refine va_calli (va_runV (As := [.int (nI i)]) (rest := []) ⟨hx, hb, hml, hown, hts⟩ (c_X2_isRootBefore l G cy ad n k v o hn hk _ i h_i) (cwV 1 hts gX2_differentRoots_X2_isRootBefore rfl rfl rfl (by decide +kernel) ⟨Nat.le_of_ble_eq_true rfl, Nat.le_of_ble_eq_true rfl⟩) (mP_V (r := (RX2, TX2, 5)) hN hE S_0 rfl) rfl rfl hl.1 rfl (lv_room (Nat.le_of_ble_eq_true rfl)) dX2_differentRoots_14 ⟨Nat.le_of_ble_eq_true rfl, Nat.le_of_ble_eq_true rfl⟩) hE.2.2.2 (fun q _ h => mE_A hE q h) (mE_A hE) (fun r uq tq H locs ht hvm hw hB hz1 hk1 hS => ?_)
    obtain ⟨rfl, rfl⟩ := hw
    have hE : mE G (mA ad (Sy cy ad n k v o) s.heap.size) s.heap ad (Sy cy ad n k v o) H locs := mE_call hE hB ht hS
    refine lv_if_ne (tgt := 23) hx hb dX2_differentRoots_17 (by decide) (fun c4 => ?_) (fun c4 => ?_)
    · skip
      have c4 := Classical.not_not.mp (fun h9 => c4 (mb_0.mpr h9))
      have e9 : mDif v i = mDif v (i + 1) := by simp only [mDif]; rw [if_pos c4]; rfl
      rw [e9] at hl
      refine lv_iinc (v := nI (i + 1)) (lv' := [(2, .int (nI (i + 1))), (1, .int (nI (mDif v (i + 1)))), (0, .ref (ad 0))]) hx hb dX2_differentRoots_23 hl (k := 0) rfl (nI_add _ _) (by decide) rfl (fun ls hl => ?_)
      refine lv_goto (tgt := 4) hx hb dX2_differentRoots_26 (by decide) ?_
      exact ih1 (n - (i + 1)) (i + 1) _ _ _ (by rw [hn2]; omega) ⟨rfl, (by omega), hE, lv_sub hl [0, 1, 2] rfl⟩
    · skip
      have c4 := mb_0.mp c4
      refine lv_iinc (v := nI ((mDif v i) + 1)) (lv' := [(1, .int (nI ((mDif v i) + 1))), (2, .int (nI i)), (0, .ref (ad 0))]) hx hb dX2_differentRoots_20 hl (k := 1) rfl (nI_add _ _) (by decide) rfl (fun ls hl => ?_)
      have e9 : mDif v i + 1 = mDif v (i + 1) := by simp only [mDif]; rw [if_neg c4]
      rw [e9] at hl
      refine lv_iinc (v := nI (i + 1)) (lv' := [(2, .int (nI (i + 1))), (1, .int (nI (mDif v (i + 1)))), (0, .ref (ad 0))]) hx hb dX2_differentRoots_23 hl (k := 1) rfl (nI_add _ _) (by decide) rfl (fun ls hl => ?_)
      refine lv_goto (tgt := 4) hx hb dX2_differentRoots_26 (by decide) ?_
      exact ih1 (n - (i + 1)) (i + 1) _ _ _ (by rw [hn2]; omega) ⟨rfl, (by omega), hE, lv_sub hl [0, 1, 2] rfl⟩

set_option maxHeartbeats 4000000 in
set_option maxRecDepth 100000 in
/-- changes of all -/
theorem c_X2_changesAdded (l : Launch) (G : va_G) (cy : Nat → ClassId) (ad : Nat → Nat) (n k : Nat) (v : Nat → Nat → Int32) (o : mC) (hn : n ≤ 6) (hk : k ≤ 20) (sz : Nat) : mMi l yX2_changesAdded wsX2_changesAdded ({ frames := 7, cells := 0, slots := 0, locals := 100 }) G cy ad (Sy cy ad n k v o) sz [.ref (ad 0)] 0 0 (fun (r : Int32) u => r = mChs v n ∧ u = (ad, Sy cy ad n k v o)) := by
  refine Met.ofW (cc := cX2_changesAdded) (maxL := 3) (ret := (some .int)) (by decide) rfl ?_
  intro p e s m args below meth c s₁ B hml hv
  obtain ⟨rfl, hv⟩ := hv
  have hsz := hv.1
  subst hsz
  have hN := hv.2.2
  have hE := mP_E hv
  have hx := B.exec
  have hb := B.bytes
  have hr := B.returns
  have hts := atoms_spec (ws := wsX2_changesAdded) B.pre
  have hown : s.vm.findClass RX2 = some m.cls := findClass_of_methodNamed B.named
  have hlocks := B.notSynchronized
  have hiX2 : ∀ w ∈ wsX20, w ∈ wsX2_changesAdded := by decide +kernel
  have hiX0 : ∀ w ∈ wsX00, w ∈ wsX2_changesAdded := by decide +kernel
  have hl := lv_entry ([.ref (ad 0)]) (n := 3) (Nat.le_of_ble_eq_true rfl)
  rw [lg_entry_eq]
  generalize (lg_sl ([.ref (ad 0)]) ++ List.replicate (3 - (lg_sl ([.ref (ad 0)])).length) Slot.unset).toArray = ls at hl ⊢
  have hl : lv_has ls 3 [(0, .ref (ad 0))] := hl
  refine lv_iconst (v := nI 0) hx hb dX2_changesAdded_0 (by decide) ?_
  refine lv_istore_n (lv' := [(1, .int (nI 0)), (0, .ref (ad 0))]) hx hb dX2_changesAdded_1 rfl hl (by decide) rfl (fun ls hl => ?_)
  refine lv_iconst (v := nI 0) hx hb dX2_changesAdded_2 (by decide) ?_
  refine lv_istore_n (lv' := [(2, .int (nI 0)), (1, .int (nI 0)), (0, .ref (ad 0))]) hx hb dX2_changesAdded_3 rfl hl (by decide) rfl (fun ls hl => ?_)
  refine mx_loop (β := Nat) (fun n9 (i : Nat) H locs ls => n9 = n - i ∧ (i ≤ n) ∧ mE G (mA ad (Sy cy ad n k v o) s.heap.size) s.heap ad (Sy cy ad n k v o) H locs ∧ lv_has ls 3 [(2, .int (nI i)), (1, .int (mChs v i)), (0, .ref (ad 0))]) ?_ (n - 0) (0) _ _ _ ⟨rfl, (by omega), hE, lv_sub hl [0, 1, 2] rfl⟩
  intro n9 i H locs ls hI ih1
  obtain ⟨hn2, hle, hE, hl⟩ := hI
  have hE : mE G (mA ad (Sy cy ad n k v o) s.heap.size) s.heap ad (Sy cy ad n k v o) H locs := hE
  have hl : lv_has ls 3 [(2, .int (nI i)), (1, .int (mChs v i)), (0, .ref (ad 0))] := hl
  refine lv_iload_n hx hb dX2_changesAdded_4 rfl (lv_at hl 0 rfl) ?_
  refine lv_aload_n hx hb dX2_changesAdded_5 rfl (lv_at hl 2 rfl) ?_
  refine va_get (D := G) (ci := 2) (v := .int (nI n)) (C := RX2) (T := TX2) (N := 5) hx hb hts hiX2 hown hN.1 (mE_P1 hE S_0) 0 rfl rfl 3 (by decide) (hts (.fieldLink RX2 25 "SealedCupboards" "cupboardCount" "I") (by decide +kernel)) (fun _ h9 => h9) rfl dX2_changesAdded_6 ?_
  refine mv_ge (tgt := 30) hx hb (by omega) (by omega) dX2_changesAdded_9 (by decide) (fun c3 => ?_) (fun c3 => ?_)
  · skip
    refine lv_iload_n hx hb dX2_changesAdded_30 rfl (lv_at hl 1 rfl) ?_
    exact mx_iret hx hb hr hE hlocks ⟨by rw [show i = n by omega], rfl⟩ dX2_changesAdded_31
  · skip
    have h_i : i < n := c3
    refine lv_iload_n hx hb dX2_changesAdded_12 rfl (lv_at hl 1 rfl) ?_
    refine lv_aload_n hx hb dX2_changesAdded_13 rfl (lv_at hl 2 rfl) ?_
    refine va_get (D := G) (ci := 2) (v := .ref (ad 1)) (C := RX2) (T := TX2) (N := 5) hx hb hts hiX2 hown hN.1 (mE_P1 hE S_0) 0 rfl rfl 0 (by decide) (hts (.fieldLink RX2 11 "SealedCupboards" "cupboards" "[LSealedCupboards$Cupboard;") (by decide +kernel)) (fun _ h9 => h9) rfl dX2_changesAdded_14 ?_
    refine lv_iload_n hx hb dX2_changesAdded_17 rfl (lv_at hl 0 rfl) ?_
    refine mx_aald (t := 1) hx hb hN hE S_1 rfl (j := i) rfl (by omega) (by decide) (S_1at h_i) dX2_changesAdded_18 ?_
    refine va_getN (D := G) (ci := 0) (v := .int (v (100 + i) 2)) (C := RX0) (T := TX0) (N := 3) (host := RX2) hx hb hts hiX0 hown hN.1 (mE_P1 hE (S_ce hn h_i rfl)) 0 rfl rfl 2 (by decide) (va_Nw.use rfl (hN.2.1 (.fieldLinkNest RX2 80 RX0 "changes" "I" RX2) (by decide +kernel))) (fun _ h9 => h9) rfl dX2_changesAdded_19 ?_
    refine mv_iadd (z := (mChs v i) + (v (100 + i) 2)) hx hb rfl dX2_changesAdded_22 ?_
    refine lv_istore_n (lv' := [(1, .int ((mChs v i) + (v (100 + i) 2))), (2, .int (nI i)), (0, .ref (ad 0))]) hx hb dX2_changesAdded_23 rfl hl (by decide) rfl (fun ls hl => ?_)
    have hl : lv_has ls 3 [(1, .int (mChs v (i + 1))), (2, .int (nI i)), (0, .ref (ad 0))] := hl
    refine lv_iinc (v := nI (i + 1)) (lv' := [(2, .int (nI (i + 1))), (1, .int (mChs v (i + 1))), (0, .ref (ad 0))]) hx hb dX2_changesAdded_24 hl (k := 1) rfl (nI_add _ _) (by decide) rfl (fun ls hl => ?_)
    refine lv_goto (tgt := 4) hx hb dX2_changesAdded_27 (by decide) ?_
    exact ih1 (n - (i + 1)) (i + 1) _ _ _ (by rw [hn2]; omega) ⟨rfl, (by omega), hE, lv_sub hl [0, 1, 2] rfl⟩
