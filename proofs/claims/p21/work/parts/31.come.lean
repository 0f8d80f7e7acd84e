set_option maxHeartbeats 4000000 in
set_option maxRecDepth 100000 in
/-- a new cupboard -/
theorem c_X2_come (l : Launch) (G : va_G) (cy : Nat → ClassId) (ad : Nat → Nat) (n k : Nat) (v : Nat → Nat → Int32) (o : mC) (hn : n ≤ 6) (hk : k ≤ 20) (sz : Nat) (hq : n < 6) : mMi l yX2_come wsX2_come ({ frames := 9, cells := 3, slots := 51, locals := 180 }) G cy ad (Sy cy ad n k v o) sz [.ref (ad 0)] 3 51 (fun (r : Int32) u => r = nI n ∧ ∃ (ad' : Nat → Nat) (g : Nat → Int32), u = (ad', Sy cy ad' (n + 1) k (mVc v n g) o) ∧ (∀ j, mIs n k j → ad' j = ad j) ∧ mCon g (fun _ => 0)) := by
  refine Met.ofW (cc := cX2_come) (maxL := 1) (ret := (some .int)) (by decide) rfl ?_
  intro p e s m args below meth c s₁ B hml hv
  obtain ⟨rfl, hv⟩ := hv
  have hsz := hv.1
  subst hsz
  have hN := hv.2.2
  have hE := mP_E hv
  have hx := B.exec
  have hb := B.bytes
  have hr := B.returns
  have hts := atoms_spec (ws := wsX2_come) B.pre
  have hown : s.vm.findClass RX2 = some m.cls := findClass_of_methodNamed B.named
  have hlocks := B.notSynchronized
  have hiX2 : ∀ w ∈ wsX20, w ∈ wsX2_come := by decide +kernel
  have hiX0 : ∀ w ∈ wsX00, w ∈ wsX2_come := by decide +kernel
  have hl := lv_entry ([.ref (ad 0)]) (n := 1) (Nat.le_of_ble_eq_true rfl)
  rw [lg_entry_eq]
  generalize (lg_sl ([.ref (ad 0)]) ++ List.replicate (1 - (lg_sl ([.ref (ad 0)])).length) Slot.unset).toArray = ls at hl ⊢
  have hl : lv_has ls 1 [(0, .ref (ad 0))] := hl
  generalize ([.ref (ad 0)] : List Value).toArray = args at hts ⊢
  refine lv_aload_n hx hb dX2_come_0 rfl (lv_at hl 0 rfl) ?_
  refine va_get (D := G) (ci := 2) (v := .int (nI n)) (C := RX2) (T := TX2) (N := 5) hx hb hts hiX2 hown hN.1 (mE_P1 hE S_0) 0 rfl rfl 3 (by decide) (hts (.fieldLink RX2 25 "SealedCupboards" "cupboardCount" "I") (by decide +kernel)) (fun _ h9 => h9) rfl dX2_come_1 ?_
  refine lv_bipush (v := nI 6) hx hb dX2_come_4 (by decide) ?_
  refine mv_lt (tgt := 19) hx hb (by omega) (by omega) dX2_come_6 (by decide) (fun c1 => ?_) (fun c1 => ?_)
  · skip
    refine lv_aload_n hx hb dX2_come_19 rfl (lv_at hl 0 rfl) ?_
    refine va_get (D := G) (ci := 2) (v := .ref (ad 1)) (C := RX2) (T := TX2) (N := 5) hx hb hts hiX2 hown hN.1 (mE_P1 hE S_0) 0 rfl rfl 0 (by decide) (hts (.fieldLink RX2 11 "SealedCupboards" "cupboards" "[LSealedCupboards$Cupboard;") (by decide +kernel)) (fun _ h9 => h9) rfl dX2_come_20 ?_
    refine lv_aload_n hx hb dX2_come_23 rfl (lv_at hl 0 rfl) ?_
    refine va_get (D := G) (ci := 2) (v := .int (nI n)) (C := RX2) (T := TX2) (N := 5) hx hb hts hiX2 hown hN.1 (mE_P1 hE S_0) 0 rfl rfl 3 (by decide) (hts (.fieldLink RX2 25 "SealedCupboards" "cupboardCount" "I") (by decide +kernel)) (fun _ h9 => h9) rfl dX2_come_24 ?_
    refine mx_newo (C := RX0) (T := TX0) (N := 3) (ci := 0) (fs := [.null, .null, .int 0]) hx hb hts hiX0 tyX0 tyX0_ok hown (hts (.classLink RX2 9 RX0) (by decide +kernel)) (hts (.instantiable RX0 3) (by decide +kernel)) (hts (.initialized RX0) (by decide +kernel)) hN hE rfl (fun j hj => by rcases (show j = 0 ∨ j = 1 ∨ j = 2 by omega) with rfl | rfl | rfl <;> rfl) (100 + n) (S_100 hn) (by omega) (Nat.le_of_ble_eq_true rfl) (Nat.le_of_ble_eq_true rfl) dX2_come_27 (fun ad1 H hj1 hE => ?_)
    rw [← hj1 0 (by omega)] at hl
    rw [← hj1 1 (by omega)]
    refine lv_dup hx hb dX2_come_30 rfl ?_
    refine va_callv (va_runIN (As := []) (rest := [.ref (ad1 (100 + n)), .int (nI n), .ref (ad1 1)]) ⟨hx, hb, hml, hown, hts⟩ (c_X0_init l G cy ad1 _ _ (100 + n) (200 + n) (300 + n) (mU_s _ _ _) ((mU_n _ _ (by omega)).trans (S_200 hn)) ((mU_n _ _ (by omega)).trans (S_300 hn)) (by omega) (by omega) (by omega)) ⟨va_cnB 0 hts gX2_come_X0_init_n36 rfl rfl rfl (hN.2.1 (.methodLinkNest RX2 36 yX0_init RX2) (by decide +kernel)) (hts (.initialized RX0) (by decide +kernel)) (by decide +kernel) ⟨Nat.le_of_ble_eq_true rfl, Nat.le_of_ble_eq_true rfl⟩, rfl, (hts (.instanceMethod yX0_init) (by decide +kernel))⟩ (mP_S hN hE) rfl rfl hl.1 rfl (lv_room (Nat.le_of_ble_eq_true rfl)) dX2_come_31 ⟨Nat.le_of_ble_eq_true rfl, Nat.le_of_ble_eq_true rfl⟩) hE.2.2.2 (fun q _ h => mE_A hE q h) (mE_A hE) (fun uq tq H locs ht hvm hw hB hz1 hk1 hS => ?_)
    obtain ⟨ad2, M2⟩ := uq
    obtain ⟨w1, w2, w3, ⟨g, w4, w5⟩, w6⟩ := hw
    have hE : mE G (mA ad (Sy cy ad n k v o) s.heap.size) s.heap ad2 M2 H locs := mE_call hE hB ht hS
    have w1 : ∀ j, j ≠ 200 + n → j ≠ 300 + n → ad2 j = ad1 j := w1
    have hj2 : ∀ j, mIs n k j → ad2 j = ad j := fun j hj => (w1 j (by unfold mIs at hj; omega) (by unfold mIs at hj; omega)).trans (hj1 j (by unfold mIs at hj; omega))
    have w2 : M2 (100 + n) = some (.inr (0, [.ref (ad2 (200 + n)), .ref (ad2 (300 + n)), .int 0])) := w2
    have w6 : ∀ j, j ≠ 100 + n → j ≠ 200 + n → j ≠ 300 + n → M2 j = Sy cy ad2 n k v o j := fun j a b c9 => (w6 j a b c9).trans ((mU_n _ _ a).trans (congrFun (S_ad hj2) j))
    rw [← w1 0 (by omega) (by omega)] at hl
    rw [← w1 1 (by omega) (by omega), ← w1 (100 + n) (by omega) (by omega)]
    refine mx_aast (k := 1) (k2 := 100 + n) (t := 1) (r := (RX0, TX0, 3)) (ci := 0) hx hb hN hE ((w6 1 (by omega) (by omega) (by omega)).trans S_1) rfl w2 rfl rfl (show n < 6 by omega) (by decide) dX2_come_34 (fun H locs hE => ?_)
    rw [mO1_up] at hE
    obtain ⟨M3, hM3⟩ : ∃ y99, y99 = mU M2 1 (mO1 cy ad2 (n + 1)) := ⟨_, rfl⟩
    have hE : mE G (mA ad (Sy cy ad n k v o) s.heap.size) s.heap ad2 M3 H locs := by rw [hM3]; exact hE
    have k0 : M3 0 = some (mO0 ad2 n k) := by rw [hM3, mU_n _ _ (by decide)]; exact (w6 0 (by omega) (by omega) (by omega)).trans S_0
    clear hj1
    refine lv_aload_n hx hb dX2_come_35 rfl (lv_at hl 0 rfl) ?_
    refine lv_dup hx hb dX2_come_36 rfl ?_
    refine va_get (D := G) (ci := 2) (v := .int (nI n)) (C := RX2) (T := TX2) (N := 5) hx hb hts hiX2 hown hN.1 (mE_P1 hE k0) 0 rfl rfl 3 (by decide) (hts (.fieldLink RX2 25 "SealedCupboards" "cupboardCount" "I") (by decide +kernel)) (fun _ h9 => h9) rfl dX2_come_37 ?_
    refine lv_iconst (v := nI 1) hx hb dX2_come_40 (by decide) ?_
    refine mv_iadd (z := nI (n + 1)) hx hb (nI_add _ _) dX2_come_41 ?_
    refine mx_put (ci := 2) (v := .int (nI (n + 1))) (ty := .int) (C := RX2) (T := TX2) (N := 5) hx hb hts hiX2 tyX2 tyX2_ok nmX2 hown hN hE k0 rfl 3 (by decide) (hts (.fieldLink RX2 25 "SealedCupboards" "cupboardCount" "I") (by decide +kernel)) (fun _ h9 => h9) rfl (by decide +kernel) rfl rfl (Nat.le_of_ble_eq_true rfl) dX2_come_42 (fun H locs hE => ?_)
    obtain ⟨M4, hM4⟩ : ∃ y99, y99 = mU M3 0 (mO0 ad2 (n + 1) k) := ⟨_, rfl⟩
    have hE : mE G (mA ad (Sy cy ad n k v o) s.heap.size) s.heap ad2 M4 H locs := by rw [hM4]; exact hE
    have k4 : M4 0 = some (mO0 ad2 (n + 1) k) := by rw [hM4, mU_s]
    refine lv_aload_n hx hb dX2_come_45 rfl (lv_at hl 0 rfl) ?_
    refine va_get (D := G) (ci := 2) (v := .int (nI (n + 1))) (C := RX2) (T := TX2) (N := 5) hx hb hts hiX2 hown hN.1 (mE_P1 hE k4) 0 rfl rfl 3 (by decide) (hts (.fieldLink RX2 25 "SealedCupboards" "cupboardCount" "I") (by decide +kernel)) (fun _ h9 => h9) rfl dX2_come_46 ?_
    refine lv_iconst (v := nI 1) hx hb dX2_come_49 (by decide) ?_
    refine mv_isub (z := nI ((n + 1) - 1)) hx hb (pk_sub (by omega)) dX2_come_50 ?_
    exact mx_iret hx hb hr hE hlocks ⟨by rw [Nat.add_sub_cancel], ad2, g, congrArg (Prod.mk ad2) (S_come hq k4 (by rw [hM4, mU_n _ _ (by decide), hM3, mU_s]) (by rw [hM4, mU_n _ _ (by omega), hM3, mU_n _ _ (by omega)]; exact w2) (by rw [hM4, mU_n _ _ (by omega), hM3, mU_n _ _ (by omega)]; exact w3) (by rw [hM4, mU_n _ _ (by omega), hM3, mU_n _ _ (by omega)]; exact w4) (fun j a0 a1 a2 a3 a4 => by rw [hM4, mU_n _ _ a0, hM3, mU_n _ _ a1]; exact w6 j a2 a3 a4)), hj2, w5⟩ dX2_come_51
  · skip
    exfalso; omega

set_option maxHeartbeats 4000000 in
set_option maxRecDepth 100000 in
/-- the root of a cupboard, in any world -/
theorem c_X0_rootM (l : Launch) (G : va_G) (cy : Nat → ClassId) (ad : Nat → Nat) (M : mC) (sz : Nat) (i : Nat) (f : Nat → Int32) (x : Int32) (m1 : M (100 + i) = some (.inr (0, [.ref (ad (200 + i)), .ref (ad (300 + i)), .int x]))) (m2 : M (300 + i) = some (mI cy 32 f)) : mMi l yX0_root wsX0_root ({ frames := 7, cells := 0, slots := 0, locals := 100 }) G cy ad (M) sz [.ref (ad (100 + i))] 0 0 (fun (r : Int32) u => r = f 1 ∧ u = (ad, M)) := by
  refine Met.ofW (cc := cX0_root) (maxL := 1) (ret := (some .int)) (by decide) rfl ?_
  intro p e s m args below meth c s₁ B hml hv
  obtain ⟨rfl, hv⟩ := hv
  have hsz := hv.1
  subst hsz
  have hN := hv.2.2
  have hE := mP_E hv
  have hx := B.exec
  have hb := B.bytes
  have hr := B.returns
  have hts := atoms_spec (ws := wsX0_root) B.pre
  have hown : s.vm.findClass RX0 = some m.cls := findClass_of_methodNamed B.named
  have hlocks := B.notSynchronized
  have hiX0 : ∀ w ∈ wsX00, w ∈ wsX0_root := by decide +kernel
  have hl := lv_entry ([.ref (ad (100 + i))]) (n := 1) (Nat.le_of_ble_eq_true rfl)
  rw [lg_entry_eq]
  generalize (lg_sl ([.ref (ad (100 + i))]) ++ List.replicate (1 - (lg_sl ([.ref (ad (100 + i))])).length) Slot.unset).toArray = ls at hl ⊢
  have hl : lv_has ls 1 [(0, .ref (ad (100 + i)))] := hl
  refine lv_aload_n hx hb dX0_root_0 rfl (lv_at hl 0 rfl) ?_
  refine va_get (D := G) (ci := 0) (v := .ref (ad (300 + i))) (C := RX0) (T := TX0) (N := 3) hx hb hts hiX0 hown hN.1 (mE_P1 hE m1) 0 rfl rfl 1 (by decide) (hts (.fieldLink RX0 15 "SealedCupboards$Cupboard" "sums" "[I") (by decide +kernel)) (fun _ h9 => h9) rfl dX0_root_1 ?_
  refine lv_iconst (v := nI 1) hx hb dX0_root_4 (by decide) ?_
  refine mx_iald hx hb hN hE m2 (j := 1) rfl (by omega) (by decide) dX0_root_5 ?_
  exact mx_iret hx hb hr hE hlocks ⟨rfl, rfl⟩ dX0_root_6

set_option maxHeartbeats 4000000 in
set_option maxRecDepth 100000 in
/-- a new seal -/
theorem c_X2_seal (l : Launch) (G : va_G) (cy : Nat → ClassId) (ad : Nat → Nat) (n k : Nat) (v : Nat → Nat → Int32) (o : mC) (hn : n ≤ 6) (hk : k ≤ 20) (sz : Nat) (i : Nat) (h_i : i < n) (hq : k < 20) : mMi l yX2_seal wsX2_seal ({ frames := 8, cells := 1, slots := 3, locals := 140 }) G cy ad (Sy cy ad n k v o) sz [.ref (ad 0), .int (nI i)] 1 3 (fun (r : Int32) u => r = nI k ∧ ∃ (ad' : Nat → Nat), u = (ad', Sy cy ad' n (k + 1) (va_up v (400 + k) (mV3 (nI i) (v (300 + i) 1) (v (100 + i) 2))) o) ∧ (∀ j, mIs n k j → ad' j = ad j)) := by
  refine Met.ofW (cc := cX2_seal) (maxL := 3) (ret := (some .int)) (by decide) rfl ?_
  intro p e s m args below meth c s₁ B hml hv
  obtain ⟨rfl, hv⟩ := hv
  have hsz := hv.1
  subst hsz
  have hN := hv.2.2
  have hE := mP_E hv
  have hx := B.exec
  have hb := B.bytes
  have hr := B.returns
  have hts := atoms_spec (ws := wsX2_seal) B.pre
  have hown : s.vm.findClass RX2 = some m.cls := findClass_of_methodNamed B.named
  have hlocks := B.notSynchronized
  have hiX2 : ∀ w ∈ wsX20, w ∈ wsX2_seal := by decide +kernel
  have hiX1 : ∀ w ∈ wsX10, w ∈ wsX2_seal := by decide +kernel
  have hiX0 : ∀ w ∈ wsX00, w ∈ wsX2_seal := by decide +kernel
  have hl := lv_entry ([.ref (ad 0), .int (nI i)]) (n := 3) (Nat.le_of_ble_eq_true rfl)
  rw [lg_entry_eq]
  generalize (lg_sl ([.ref (ad 0), .int (nI i)]) ++ List.replicate (3 - (lg_sl ([.ref (ad 0), .int (nI i)])).length) Slot.unset).toArray = ls at hl ⊢
  have hl : lv_has ls 3 [(0, .ref (ad 0)), (1, .int (nI i))] := hl
  generalize ([.ref (ad 0), .int (nI i)] : List Value).toArray = args at hts ⊢
  refine lv_aload_n hx hb dX2_seal_0 rfl (lv_at hl 0 rfl) ?_
  refine lv_iload_n hx hb dX2_seal_1 rfl (lv_at hl 1 rfl) ?_
  refine va_callq (va_runV (As := [.int (nI i)]) (rest := []) ⟨hx, hb, hml, hown, hts⟩ (c_X2_findCupboard l G cy ad n k v o hn hk _ i h_i) (cwV 1 hts gX2_seal_X2_findCupboard rfl rfl rfl (by decide +kernel) ⟨Nat.le_of_ble_eq_true rfl, Nat.le_of_ble_eq_true rfl⟩) (mP_V (r := (RX2, TX2, 5)) hN hE S_0 rfl) rfl rfl hl.1 rfl (lv_room (Nat.le_of_ble_eq_true rfl)) dX2_seal_2 ⟨Nat.le_of_ble_eq_true rfl, Nat.le_of_ble_eq_true rfl⟩) hE.2.2.2 (fun q _ h => mE_A hE q h) (mE_A hE) (fun r uq tq H locs ht hvm hw hB hz1 hk1 hS => ?_)
  obtain ⟨rfl, rfl⟩ := hw
  have hE : mE G (mA ad (Sy cy ad n k v o) s.heap.size) s.heap ad (Sy cy ad n k v o) H locs := mE_call hE hB ht hS
  refine lv_astore_n (lv' := [(2, .ref (ad (100 + i))), (0, .ref (ad 0)), (1, .int (nI i))]) hx hb dX2_seal_5 rfl hl (by decide) rfl (fun ls hl => ?_)
  refine lv_aload_n hx hb dX2_seal_6 rfl (lv_at hl 1 rfl) ?_
  refine va_get (D := G) (ci := 2) (v := .int (nI k)) (C := RX2) (T := TX2) (N := 5) hx hb hts hiX2 hown hN.1 (mE_P1 hE S_0) 0 rfl rfl 4 (by decide) (hts (.fieldLink RX2 97 "SealedCupboards" "sealCount" "I") (by decide +kernel)) (fun _ h9 => h9) rfl dX2_seal_7 ?_
  refine lv_bipush (v := nI 20) hx hb dX2_seal_10 (by decide) ?_
  refine mv_lt (tgt := 25) hx hb (by omega) (by omega) dX2_seal_12 (by decide) (fun c1 => ?_) (fun c1 => ?_)
  · skip
    refine lv_aload_n hx hb dX2_seal_25 rfl (lv_at hl 1 rfl) ?_
    refine va_get (D := G) (ci := 2) (v := .ref (ad 2)) (C := RX2) (T := TX2) (N := 5) hx hb hts hiX2 hown hN.1 (mE_P1 hE S_0) 0 rfl rfl 1 (by decide) (hts (.fieldLink RX2 17 "SealedCupboards" "seals" "[LSealedCupboards$Seal;") (by decide +kernel)) (fun _ h9 => h9) rfl dX2_seal_26 ?_
    refine lv_aload_n hx hb dX2_seal_29 rfl (lv_at hl 1 rfl) ?_
    refine va_get (D := G) (ci := 2) (v := .int (nI k)) (C := RX2) (T := TX2) (N := 5) hx hb hts hiX2 hown hN.1 (mE_P1 hE S_0) 0 rfl rfl 4 (by decide) (hts (.fieldLink RX2 97 "SealedCupboards" "sealCount" "I") (by decide +kernel)) (fun _ h9 => h9) rfl dX2_seal_30 ?_
    refine mx_newo (C := RX1) (T := TX1) (N := 3) (ci := 1) (fs := [.int 0, .int 0, .int 0]) hx hb hts hiX1 tyX1 tyX1_ok hown (hts (.classLink RX2 15 RX1) (by decide +kernel)) (hts (.instantiable RX1 3) (by decide +kernel)) (hts (.initialized RX1) (by decide +kernel)) hN hE rfl (fun j hj => by rcases (show j = 0 ∨ j = 1 ∨ j = 2 by omega) with rfl | rfl | rfl <;> rfl) (400 + k) (S_400 hn) (by omega) (Nat.le_of_ble_eq_true rfl) (Nat.le_of_ble_eq_true rfl) dX2_seal_33 (fun ad2 H hj1 hE => ?_)
    have hj2 : ∀ j, mIs n k j → ad2 j = ad j := fun j hj => hj1 j (by unfold mIs at hj; omega)
    rw [← hj1 0 (by omega), ← hj1 (100 + i) (by omega)] at hl
    rw [← hj1 2 (by omega)]
    obtain ⟨M1, hM1⟩ : ∃ y99, y99 = mU (Sy cy ad n k v o) (400 + k) (.inr (1, [.int 0, .int 0, .int 0])) := ⟨_, rfl⟩
    rw [← hM1] at hE
    have g0 : ∀ j, j ≠ 400 + k → M1 j = Sy cy ad2 n k v o j := fun j hj => by rw [hM1, mU_n _ _ hj]; exact congrFun (S_ad hj2) j
    have g1 : M1 (400 + k) = some (.inr (1, [.int 0, .int 0, .int 0])) := by rw [hM1, mU_s]
    refine lv_dup hx hb dX2_seal_36 rfl ?_
    refine lv_iload_n hx hb dX2_seal_37 rfl (lv_at hl 2 rfl) ?_
    refine lv_aload_n hx hb dX2_seal_38 rfl (lv_at hl 0 rfl) ?_
    refine va_calli (va_runVN (As := []) (rest := [.int (nI i), .ref (ad2 (400 + k)), .ref (ad2 (400 + k)), .int (nI k), .ref (ad2 2)]) ⟨hx, hb, hml, hown, hts⟩ (c_X0_rootM l G cy ad2 M1 _ i (v (300 + i)) _ ((g0 _ (by omega)).trans (S_c hn h_i)) ((g0 _ (by omega)).trans (S_s hn h_i))) ⟨va_cnB 0 hts gX2_seal_X0_root_n76 rfl rfl rfl (hN.2.1 (.methodLinkNest RX2 76 yX0_root RX2) (by decide +kernel)) (hts (.initialized RX0) (by decide +kernel)) (by decide +kernel) ⟨Nat.le_of_ble_eq_true rfl, Nat.le_of_ble_eq_true rfl⟩, (hts (.instanceMethod yX0_root) (by decide +kernel)), (hts (.selects RX0 yX0_root yX0_root) (by decide +kernel))⟩ (mP_V (r := (RX0, TX0, 3)) hN hE ((g0 _ (by omega)).trans (S_c hn h_i)) rfl) rfl rfl hl.1 rfl (lv_room (Nat.le_of_ble_eq_true rfl)) dX2_seal_39 ⟨Nat.le_of_ble_eq_true rfl, Nat.le_of_ble_eq_true rfl⟩) hE.2.2.2 (fun q _ h => mE_A hE q h) (mE_A hE) (fun r uq tq H locs ht hvm hw hB hz1 hk1 hS => ?_)
    obtain ⟨rfl, rfl⟩ := hw
    have hE : mE G (mA ad (Sy cy ad n k v o) s.heap.size) s.heap ad2 (M1) H locs := mE_call hE hB ht hS
    refine lv_aload_n hx hb dX2_seal_42 rfl (lv_at hl 0 rfl) ?_
    refine va_getN (D := G) (ci := 0) (v := .int (v (100 + i) 2)) (C := RX0) (T := TX0) (N := 3) (host := RX2) hx hb hts hiX0 hown hN.1 (mE_P1 hE ((g0 _ (by omega)).trans (S_c hn h_i))) 0 rfl rfl 2 (by decide) (va_Nw.use rfl (hN.2.1 (.fieldLinkNest RX2 80 RX0 "changes" "I" RX2) (by decide +kernel))) (fun _ h9 => h9) rfl dX2_seal_43 ?_
    refine va_callv (va_runIN (As := [.int (nI i), .int (v (300 + i) 1), .int (v (100 + i) 2)]) (rest := [.ref (ad2 (400 + k)), .int (nI k), .ref (ad2 2)]) ⟨hx, hb, hml, hown, hts⟩ (c_X1_init l G cy ad2 _ _ (400 + k) (nI i) (v (300 + i) 1) (v (100 + i) 2) g1) ⟨va_cnB 3 hts gX2_seal_X1_init_n102 rfl rfl rfl (hN.2.1 (.methodLinkNest RX2 102 yX1_init RX2) (by decide +kernel)) (hts (.initialized RX1) (by decide +kernel)) (by decide +kernel) ⟨Nat.le_of_ble_eq_true rfl, Nat.le_of_ble_eq_true rfl⟩, rfl, (hts (.instanceMethod yX1_init) (by decide +kernel))⟩ (mP_S hN hE) rfl rfl hl.1 rfl (lv_room (Nat.le_of_ble_eq_true rfl)) dX2_seal_46 ⟨Nat.le_of_ble_eq_true rfl, Nat.le_of_ble_eq_true rfl⟩) hE.2.2.2 (fun q _ h => mE_A hE q h) (mE_A hE) (fun uq tq H locs ht hvm hw hB hz1 hk1 hS => ?_)
    obtain ⟨ad3, M2⟩ := uq
    obtain ⟨w1, w2, w6⟩ := hw
    have w1 : ad3 = ad2 := w1
    subst w1
    have hE : mE G (mA ad (Sy cy ad n k v o) s.heap.size) s.heap ad3 M2 H locs := mE_call hE hB ht hS
    have w2 : M2 (400 + k) = some (.inr (1, [.int (nI i), .int (v (300 + i) 1), .int (v (100 + i) 2)])) := w2
    have w6 : ∀ j, j ≠ 400 + k → M2 j = Sy cy ad3 n k v o j := fun j a => (w6 j a).trans (g0 j a)
    refine mx_aast (k := 2) (k2 := 400 + k) (t := 2) (r := (RX1, TX1, 3)) (ci := 1) hx hb hN hE ((w6 2 (by omega)).trans S_2) rfl w2 rfl rfl (show k < 20 by omega) (by decide) dX2_seal_49 (fun H locs hE => ?_)
    rw [mO2_up] at hE
    obtain ⟨M3, hM3⟩ : ∃ y99, y99 = mU M2 2 (mO2 cy ad3 (k + 1)) := ⟨_, rfl⟩
    have hE : mE G (mA ad (Sy cy ad n k v o) s.heap.size) s.heap ad3 M3 H locs := by rw [hM3]; exact hE
    have k0 : M3 0 = some (mO0 ad3 n k) := by rw [hM3, mU_n _ _ (by decide)]; exact (w6 0 (by omega)).trans S_0
    refine lv_aload_n hx hb dX2_seal_50 rfl (lv_at hl 1 rfl) ?_
    refine lv_dup hx hb dX2_seal_51 rfl ?_
    refine va_get (D := G) (ci := 2) (v := .int (nI k)) (C := RX2) (T := TX2) (N := 5) hx hb hts hiX2 hown hN.1 (mE_P1 hE k0) 0 rfl rfl 4 (by decide) (hts (.fieldLink RX2 97 "SealedCupboards" "sealCount" "I") (by decide +kernel)) (fun _ h9 => h9) rfl dX2_seal_52 ?_
    refine lv_iconst (v := nI 1) hx hb dX2_seal_55 (by decide) ?_
    refine mv_iadd (z := nI (k + 1)) hx hb (nI_add _ _) dX2_seal_56 ?_
    refine mx_put (ci := 2) (v := .int (nI (k + 1))) (ty := .int) (C := RX2) (T := TX2) (N := 5) hx hb hts hiX2 tyX2 tyX2_ok nmX2 hown hN hE k0 rfl 4 (by decide) (hts (.fieldLink RX2 97 "SealedCupboards" "sealCount" "I") (by decide +kernel)) (fun _ h9 => h9) rfl (by decide +kernel) rfl rfl (Nat.le_of_ble_eq_true rfl) dX2_seal_57 (fun H locs hE => ?_)
    obtain ⟨M4, hM4⟩ : ∃ y99, y99 = mU M3 0 (mO0 ad3 n (k + 1)) := ⟨_, rfl⟩
    have hE : mE G (mA ad (Sy cy ad n k v o) s.heap.size) s.heap ad3 M4 H locs := by rw [hM4]; exact hE
    have k4 : M4 0 = some (mO0 ad3 n (k + 1)) := by rw [hM4, mU_s]
    refine lv_aload_n hx hb dX2_seal_60 rfl (lv_at hl 1 rfl) ?_
    refine va_get (D := G) (ci := 2) (v := .int (nI (k + 1))) (C := RX2) (T := TX2) (N := 5) hx hb hts hiX2 hown hN.1 (mE_P1 hE k4) 0 rfl rfl 4 (by decide) (hts (.fieldLink RX2 97 "SealedCupboards" "sealCount" "I") (by decide +kernel)) (fun _ h9 => h9) rfl dX2_seal_61 ?_
    refine lv_iconst (v := nI 1) hx hb dX2_seal_64 (by decide) ?_
    refine mv_isub (z := nI ((k + 1) - 1)) hx hb (pk_sub (by omega)) dX2_seal_65 ?_
    exact mx_iret hx hb hr hE hlocks ⟨by rw [Nat.add_sub_cancel], ad3, congrArg (Prod.mk ad3) (S_seal hn hq k4 (by rw [hM4, mU_n _ _ (by decide), hM3, mU_s]) (by rw [hM4, mU_n _ _ (by omega), hM3, mU_n _ _ (by omega)]; exact w2) (fun j a0 a1 a2 => by rw [hM4, mU_n _ _ a0, hM3, mU_n _ _ a1]; exact w6 j a2)), hj2⟩ dX2_seal_66
  · skip
    exfalso; omega
