set_option maxHeartbeats 4000000 in
set_option maxRecDepth 100000 in
/-- swap -/
theorem c_X3_swap (l : Launch) (G : va_G) (cy : Nat → ClassId) (ad : Nat → Nat) (cn ck n k : Nat) (v : Nat → Nat → Int32) (o : Nat → Int64) (hn : n ≤ 6) (hk : k ≤ 20) (sz : Nat) (hm1 : v 4 1 = nI n) (hm2 : v 4 2 = nI k) (i a b9 : Nat) (h_i : i < n) (ha : a < 16) (hb9 : b9 < 16) {f5 : Nat → Int32} (h5 : v 5 = f5) {f6 : Nat → Int32} (h6 : v 6 = f6) : mMi l yX3_swap wsX3_swap ({ frames := 9, cells := 0, slots := 0, locals := 180 }) G cy ad (Sy cy ad cn ck v o) sz [.ref (ad 4), .int (nI i), .int (nI a), .int (nI b9)] 0 0 (fun (r : Int32) u => r = nI (mApart (mS (fun d => mX5 f5 i a b9 (16 * i + d))) (mS (fun d => f5 (16 * i + d))) 31) ∧ ∃ v' : Nat → Nat → Int32, u = (ad, Sy cy ad cn ck v' o) ∧ mQM v v' (nI 0) (mX5 f5 i a b9) (if f5 (16 * i + a) = f5 (16 * i + b9) then f6 else upd f6 i (f6 i + nI 2))) := by
  refine Met.ofW (cc := cX3_swap) (maxL := 6) (ret := (some .int)) (by decide) rfl ?_
  intro p e s m args below meth c s₁ B hml hv
  obtain ⟨rfl, hv⟩ := hv
  have hsz := hv.1
  subst hsz
  have hN := hv.2.2
  have hE := mP_E hv
  have hx := B.exec
  have hb := B.bytes
  have hr := B.returns
  have hts := atoms_spec (ws := wsX3_swap) B.pre
  have hown : s.vm.findClass RX3 = some m.cls := findClass_of_methodNamed B.named
  have hlocks := B.notSynchronized
  have hiX3 : ∀ w ∈ wsX30, w ∈ wsX3_swap := by decide +kernel
  have hl := lv_entry ([.ref (ad 4), .int (nI i), .int (nI a), .int (nI b9)]) (n := 6) (Nat.le_of_ble_eq_true rfl)
  rw [lg_entry_eq]
  generalize (lg_sl ([.ref (ad 4), .int (nI i), .int (nI a), .int (nI b9)]) ++ List.replicate (6 - (lg_sl ([.ref (ad 4), .int (nI i), .int (nI a), .int (nI b9)])).length) Slot.unset).toArray = ls at hl ⊢
  have hl : lv_has ls 6 [(0, .ref (ad 4)), (1, .int (nI i)), (2, .int (nI a)), (3, .int (nI b9))] := hl
  refine lv_aload_n hx hb dX3_swap_0 rfl (lv_at hl 0 rfl) ?_
  refine lv_iconst (v := nI 0) hx hb dX3_swap_1 (by decide) ?_
  refine mx_put (ci := 3) (v := .int (nI 0)) (ty := .int) (C := RX3) (T := TX3) (N := 11) hx hb hts hiX3 tyX3 tyX3_ok nmX3 hown hN hE (S_4f rfl hm1 hm2 rfl) rfl 0 (by decide) (hts (.fieldLink RX3 31 "SealedCupboardsModel" "thrown" "I") (by decide +kernel)) (fun _ h9 => h9) rfl (by decide +kernel) rfl rfl (Nat.le_of_ble_eq_true rfl) dX3_swap_2 (fun H locs hE => ?_)
  obtain ⟨kv1, hkv1⟩ : ∃ y99, y99 = va_up v 4 (upd (v 4) 0 (nI 0)) := ⟨_, rfl⟩
  have hE : mE G (mA ad (Sy cy ad cn ck v o) s.heap.size) s.heap ad (Sy cy ad cn ck kv1 o) H locs := by rw [hkv1]; exact (S_4u (upd_s _ _ _) ((upd_n _ _ (by decide)).trans hm1) ((upd_n _ _ (by decide)).trans hm2) ((upd_n _ _ (by decide)).trans rfl)) ▸ hE
  have kf2 : kv1 4 0 = nI 0 := by rw [hkv1, va_up_s, upd_s]
  have kf3 : kv1 4 1 = nI n := by rw [hkv1, va_up_s, upd_n _ _ (by decide)]; exact hm1
  have kf4 : kv1 4 2 = nI k := by rw [hkv1, va_up_s, upd_n _ _ (by decide)]; exact hm2
  have kf5 : kv1 4 10 = v 4 10 := by rw [hkv1, va_up_s, upd_n _ _ (by decide)]
  have ke6 : kv1 5 = f5 := by rw [hkv1, va_up_n _ _ (by omega)]; exact h5
  have ke7 : kv1 6 = f6 := by rw [hkv1, va_up_n _ _ (by omega)]; exact h6
  have ke8 : kv1 10 = v 10 := by rw [hkv1, va_up_n _ _ (by omega)]
  have ke9 : kv1 11 = v 11 := by rw [hkv1, va_up_n _ _ (by omega)]
  refine lv_aload_n hx hb dX3_swap_5 rfl (lv_at hl 0 rfl) ?_
  refine lv_iload_n hx hb dX3_swap_6 rfl (lv_at hl 1 rfl) ?_
  refine va_calli (va_runV (As := [.int (nI i)]) (rest := []) ⟨hx, hb, hml, hown, hts⟩ (c_X3_isCupboard l G cy ad cn ck n k kv1 o hn hk _ kf3 kf4 i h_i) (cwV 1 hts gX3_swap_X3_isCupboard rfl rfl rfl (by decide +kernel) ⟨Nat.le_of_ble_eq_true rfl, Nat.le_of_ble_eq_true rfl⟩) (mP_V (r := (RX3, TX3, 11)) hN hE (S_4f kf2 kf3 kf4 kf5) rfl) rfl rfl hl.1 rfl (lv_room (Nat.le_of_ble_eq_true rfl)) dX3_swap_7 ⟨Nat.le_of_ble_eq_true rfl, Nat.le_of_ble_eq_true rfl⟩) hE.2.2.2 (fun q _ h => mE_A hE q h) (mE_A hE) (fun r uq tq H locs ht hvm hw hB hz1 hk1 hS => ?_)
  obtain ⟨rfl, rfl⟩ := hw
  have hE : mE G (mA ad (Sy cy ad cn ck v o) s.heap.size) s.heap ad (Sy cy ad cn ck kv1 o) H locs := mE_call hE hB ht hS
  refine lv_if_eq (tgt := 27) hx hb dX3_swap_10 (by decide) (fun c10 => ?_) (fun c10 => ?_)
  · skip
    have c10 := (mz_eq (by omega)).mp c10
    exfalso; omega
  · skip
    have c10 : ¬ 1 = 0 := fun h9 => c10 ((mz_eq (by omega)).mpr h9)
    refine lv_iload_n hx hb dX3_swap_13 rfl (lv_at hl 2 rfl) ?_
    refine va_calli (va_runS (As := [.int (nI a)]) (rest := []) ⟨hx, hb, hml, hown, hts⟩ (c_X3_isDrawer l G cy ad (Sy cy ad cn ck kv1 o) _ a (by omega)) (va_cwS 1 hts gX3_swap_X3_isDrawer rfl rfl rfl (by decide +kernel) ⟨Nat.le_of_ble_eq_true rfl, Nat.le_of_ble_eq_true rfl⟩) (mP_S hN hE) rfl rfl hl.1 rfl (lv_room (Nat.le_of_ble_eq_true rfl)) dX3_swap_14 ⟨Nat.le_of_ble_eq_true rfl, Nat.le_of_ble_eq_true rfl⟩) hE.2.2.2 (fun q _ h => mE_A hE q h) (mE_A hE) (fun r uq tq H locs ht hvm hw hB hz1 hk1 hS => ?_)
    obtain ⟨rfl, rfl⟩ := hw
    have hE : mE G (mA ad (Sy cy ad cn ck v o) s.heap.size) s.heap ad (Sy cy ad cn ck kv1 o) H locs := mE_call hE hB ht hS
    refine lv_if_eq (tgt := 27) hx hb dX3_swap_17 (by decide) (fun c11 => ?_) (fun c11 => ?_)
    · skip
      have c11 := (mz_eq (by omega)).mp c11
      exfalso; omega
    · skip
      have c11 : ¬ 1 = 0 := fun h9 => c11 ((mz_eq (by omega)).mpr h9)
      refine lv_iload_n hx hb dX3_swap_20 rfl (lv_at hl 3 rfl) ?_
      refine va_calli (va_runS (As := [.int (nI b9)]) (rest := []) ⟨hx, hb, hml, hown, hts⟩ (c_X3_isDrawer l G cy ad (Sy cy ad cn ck kv1 o) _ b9 (by omega)) (va_cwS 1 hts gX3_swap_X3_isDrawer rfl rfl rfl (by decide +kernel) ⟨Nat.le_of_ble_eq_true rfl, Nat.le_of_ble_eq_true rfl⟩) (mP_S hN hE) rfl rfl hl.1 rfl (lv_room (Nat.le_of_ble_eq_true rfl)) dX3_swap_21 ⟨Nat.le_of_ble_eq_true rfl, Nat.le_of_ble_eq_true rfl⟩) hE.2.2.2 (fun q _ h => mE_A hE q h) (mE_A hE) (fun r uq tq H locs ht hvm hw hB hz1 hk1 hS => ?_)
      obtain ⟨rfl, rfl⟩ := hw
      have hE : mE G (mA ad (Sy cy ad cn ck v o) s.heap.size) s.heap ad (Sy cy ad cn ck kv1 o) H locs := mE_call hE hB ht hS
      refine lv_if_ne (tgt := 33) hx hb dX3_swap_24 (by decide) (fun c12 => ?_) (fun c12 => ?_)
      · skip
        have c12 : ¬ 1 = 0 := fun h9 => c12 ((mz_eq (by omega)).mpr h9)
        refine lv_aload_n hx hb dX3_swap_33 rfl (lv_at hl 0 rfl) ?_
        refine lv_iload_n hx hb dX3_swap_34 rfl (lv_at hl 1 rfl) ?_
        refine lv_aload_n hx hb dX3_swap_35 rfl (lv_at hl 0 rfl) ?_
        refine va_get (D := G) (ci := 3) (v := .ref (ad 11)) (C := RX3) (T := TX3) (N := 11) hx hb hts hiX3 hown hN.1 (mE_P1 hE (S_4f kf2 kf3 kf4 kf5)) 0 rfl rfl 9 (by decide) (hts (.fieldLink RX3 28 "SealedCupboardsModel" "others" "[I") (by decide +kernel)) (fun _ h9 => h9) rfl dX3_swap_36 ?_
        refine va_callv (va_runV (As := [.int (nI i), .ref (ad 11)]) (rest := []) ⟨hx, hb, hml, hown, hts⟩ (c_X3_reckon l G cy ad cn ck n k kv1 o hn hk _ kf3 kf4 i 11 h_i (fun g => sy_11) (by decide) (by decide) ke6) (cwV 2 hts gX3_swap_X3_reckon rfl rfl rfl (by decide +kernel) ⟨Nat.le_of_ble_eq_true rfl, Nat.le_of_ble_eq_true rfl⟩) (mP_V (r := (RX3, TX3, 11)) hN hE (S_4f kf2 kf3 kf4 kf5) rfl) rfl rfl hl.1 rfl (lv_room (Nat.le_of_ble_eq_true rfl)) dX3_swap_39 ⟨Nat.le_of_ble_eq_true rfl, Nat.le_of_ble_eq_true rfl⟩) hE.2.2.2 (fun q _ h => mE_A hE q h) (mE_A hE) (fun uq tq H locs ht hvm hw hB hz1 hk1 hS => ?_)
        obtain ⟨kg13, rfl, kq14⟩ := hw
        have hE : mE G (mA ad (Sy cy ad cn ck v o) s.heap.size) s.heap ad (Sy cy ad cn ck (va_up kv1 11 kg13) o) H locs := mE_call hE hB ht hS
        obtain ⟨kv15, hkv15⟩ : ∃ y99, y99 = va_up kv1 11 kg13 := ⟨_, rfl⟩
        have hE : mE G (mA ad (Sy cy ad cn ck v o) s.heap.size) s.heap ad (Sy cy ad cn ck kv15 o) H locs := by rw [hkv15]; exact hE
        have ke16 : kv15 5 = f5 := by rw [hkv15, va_up_n _ _ (by omega)]; exact ke6
        have ke17 : kv15 6 = f6 := by rw [hkv15, va_up_n _ _ (by omega)]; exact ke7
        have ke18 : kv15 10 = v 10 := by rw [hkv15, va_up_n _ _ (by omega)]; exact ke8
        have ke19 : kv15 11 = kg13 := by rw [hkv15, va_up_s]
        have kf20 : kv15 4 0 = nI 0 := by rw [hkv15, va_up_n _ _ (by omega)]; exact kf2
        have kf21 : kv15 4 1 = nI n := by rw [hkv15, va_up_n _ _ (by omega)]; exact kf3
        have kf22 : kv15 4 2 = nI k := by rw [hkv15, va_up_n _ _ (by omega)]; exact kf4
        have kf23 : kv15 4 10 = v 4 10 := by rw [hkv15, va_up_n _ _ (by omega)]; exact kf5
        refine lv_aload_n hx hb dX3_swap_42 rfl (lv_at hl 0 rfl) ?_
        refine lv_iload_n hx hb dX3_swap_43 rfl (lv_at hl 1 rfl) ?_
        refine lv_iload_n hx hb dX3_swap_44 rfl (lv_at hl 2 rfl) ?_
        refine va_calli (va_runV (As := [.int (nI i), .int (nI a)]) (rest := []) ⟨hx, hb, hml, hown, hts⟩ (c_X3_th l G cy ad cn ck n k kv15 o hn hk _ kf21 kf22 i a h_i (by omega) ke16) (cwV 2 hts gX3_swap_X3_th rfl rfl rfl (by decide +kernel) ⟨Nat.le_of_ble_eq_true rfl, Nat.le_of_ble_eq_true rfl⟩) (mP_V (r := (RX3, TX3, 11)) hN hE (S_4f kf20 kf21 kf22 kf23) rfl) rfl rfl hl.1 rfl (lv_room (Nat.le_of_ble_eq_true rfl)) dX3_swap_45 ⟨Nat.le_of_ble_eq_true rfl, Nat.le_of_ble_eq_true rfl⟩) hE.2.2.2 (fun q _ h => mE_A hE q h) (mE_A hE) (fun r uq tq H locs ht hvm hw hB hz1 hk1 hS => ?_)
        obtain ⟨rfl, rfl⟩ := hw
        have hE : mE G (mA ad (Sy cy ad cn ck v o) s.heap.size) s.heap ad (Sy cy ad cn ck kv15 o) H locs := mE_call hE hB ht hS
        refine lv_aload_n hx hb dX3_swap_48 rfl (lv_at hl 0 rfl) ?_
        refine lv_iload_n hx hb dX3_swap_49 rfl (lv_at hl 1 rfl) ?_
        refine lv_iload_n hx hb dX3_swap_50 rfl (lv_at hl 3 rfl) ?_
        refine va_calli (va_runV (As := [.int (nI i), .int (nI b9)]) (rest := [.int (f5 (16 * i + a))]) ⟨hx, hb, hml, hown, hts⟩ (c_X3_th l G cy ad cn ck n k kv15 o hn hk _ kf21 kf22 i b9 h_i (by omega) ke16) (cwV 2 hts gX3_swap_X3_th rfl rfl rfl (by decide +kernel) ⟨Nat.le_of_ble_eq_true rfl, Nat.le_of_ble_eq_true rfl⟩) (mP_V (r := (RX3, TX3, 11)) hN hE (S_4f kf20 kf21 kf22 kf23) rfl) rfl rfl hl.1 rfl (lv_room (Nat.le_of_ble_eq_true rfl)) dX3_swap_51 ⟨Nat.le_of_ble_eq_true rfl, Nat.le_of_ble_eq_true rfl⟩) hE.2.2.2 (fun q _ h => mE_A hE q h) (mE_A hE) (fun r uq tq H locs ht hvm hw hB hz1 hk1 hS => ?_)
        obtain ⟨rfl, rfl⟩ := hw
        have hE : mE G (mA ad (Sy cy ad cn ck v o) s.heap.size) s.heap ad (Sy cy ad cn ck kv15 o) H locs := mE_call hE hB ht hS
        refine lv_icmp_eq (tgt := 67) hx hb dX3_swap_54 (by decide) (fun c24 => ?_) (fun c24 => ?_)
        · skip
          refine lv_aload_n hx hb dX3_swap_67 rfl (lv_at hl 0 rfl) ?_
          refine lv_iload_n hx hb dX3_swap_68 rfl (lv_at hl 1 rfl) ?_
          refine lv_iload_n hx hb dX3_swap_69 rfl (lv_at hl 2 rfl) ?_
          refine lv_iload_n hx hb dX3_swap_70 rfl (lv_at hl 3 rfl) ?_
          refine va_callv (va_runV (As := [.int (nI i), .int (nI a), .int (nI b9)]) (rest := []) ⟨hx, hb, hml, hown, hts⟩ (c_X3_exchange l G cy ad cn ck n k kv15 o hn hk _ kf21 kf22 i a b9 h_i (by omega) (by omega) ke16) (cwV 3 hts gX3_swap_X3_exchange rfl rfl rfl (by decide +kernel) ⟨Nat.le_of_ble_eq_true rfl, Nat.le_of_ble_eq_true rfl⟩) (mP_V (r := (RX3, TX3, 11)) hN hE (S_4f kf20 kf21 kf22 kf23) rfl) rfl rfl hl.1 rfl (lv_room (Nat.le_of_ble_eq_true rfl)) dX3_swap_71 ⟨Nat.le_of_ble_eq_true rfl, Nat.le_of_ble_eq_true rfl⟩) hE.2.2.2 (fun q _ h => mE_A hE q h) (mE_A hE) (fun uq tq H locs ht hvm hw hB hz1 hk1 hS => ?_)
          subst hw
          have hE : mE G (mA ad (Sy cy ad cn ck v o) s.heap.size) s.heap ad (Sy cy ad cn ck (va_up kv15 5 (mX5 f5 i a b9)) o) H locs := mE_call hE hB ht hS
          obtain ⟨kv25, hkv25⟩ : ∃ y99, y99 = va_up kv15 5 (mX5 f5 i a b9) := ⟨_, rfl⟩
          have hE : mE G (mA ad (Sy cy ad cn ck v o) s.heap.size) s.heap ad (Sy cy ad cn ck kv25 o) H locs := by rw [hkv25]; exact hE
          have ke26 : kv25 6 = f6 := by rw [hkv25, va_up_n _ _ (by omega)]; exact ke17
          have ke27 : kv25 10 = v 10 := by rw [hkv25, va_up_n _ _ (by omega)]; exact ke18
          have ke28 : kv25 11 = kg13 := by rw [hkv25, va_up_n _ _ (by omega)]; exact ke19
          have ke29 : kv25 5 = (mX5 f5 i a b9) := by rw [hkv25, va_up_s]
          have kf30 : kv25 4 0 = nI 0 := by rw [hkv25, va_up_n _ _ (by omega)]; exact kf20
          have kf31 : kv25 4 1 = nI n := by rw [hkv25, va_up_n _ _ (by omega)]; exact kf21
          have kf32 : kv25 4 2 = nI k := by rw [hkv25, va_up_n _ _ (by omega)]; exact kf22
          have kf33 : kv25 4 10 = v 4 10 := by rw [hkv25, va_up_n _ _ (by omega)]; exact kf23
          refine lv_aload_n hx hb dX3_swap_74 rfl (lv_at hl 0 rfl) ?_
          refine lv_iload_n hx hb dX3_swap_75 rfl (lv_at hl 1 rfl) ?_
          refine lv_aload_n hx hb dX3_swap_76 rfl (lv_at hl 0 rfl) ?_
          refine va_get (D := G) (ci := 3) (v := .ref (ad 10)) (C := RX3) (T := TX3) (N := 11) hx hb hts hiX3 hown hN.1 (mE_P1 hE (S_4f kf30 kf31 kf32 kf33)) 0 rfl rfl 8 (by decide) (hts (.fieldLink RX3 25 "SealedCupboardsModel" "sums" "[I") (by decide +kernel)) (fun _ h9 => h9) rfl dX3_swap_77 ?_
          refine va_callv (va_runV (As := [.int (nI i), .ref (ad 10)]) (rest := []) ⟨hx, hb, hml, hown, hts⟩ (c_X3_reckon l G cy ad cn ck n k kv25 o hn hk _ kf31 kf32 i 10 h_i (fun g => sy_10) (by decide) (by decide) ke29) (cwV 2 hts gX3_swap_X3_reckon rfl rfl rfl (by decide +kernel) ⟨Nat.le_of_ble_eq_true rfl, Nat.le_of_ble_eq_true rfl⟩) (mP_V (r := (RX3, TX3, 11)) hN hE (S_4f kf30 kf31 kf32 kf33) rfl) rfl rfl hl.1 rfl (lv_room (Nat.le_of_ble_eq_true rfl)) dX3_swap_80 ⟨Nat.le_of_ble_eq_true rfl, Nat.le_of_ble_eq_true rfl⟩) hE.2.2.2 (fun q _ h => mE_A hE q h) (mE_A hE) (fun uq tq H locs ht hvm hw hB hz1 hk1 hS => ?_)
          obtain ⟨kg34, rfl, kq35⟩ := hw
          have hE : mE G (mA ad (Sy cy ad cn ck v o) s.heap.size) s.heap ad (Sy cy ad cn ck (va_up kv25 10 kg34) o) H locs := mE_call hE hB ht hS
          obtain ⟨kv36, hkv36⟩ : ∃ y99, y99 = va_up kv25 10 kg34 := ⟨_, rfl⟩
          have hE : mE G (mA ad (Sy cy ad cn ck v o) s.heap.size) s.heap ad (Sy cy ad cn ck kv36 o) H locs := by rw [hkv36]; exact hE
          have ke37 : kv36 5 = (mX5 f5 i a b9) := by rw [hkv36, va_up_n _ _ (by omega)]; exact ke29
          have ke38 : kv36 6 = f6 := by rw [hkv36, va_up_n _ _ (by omega)]; exact ke26
          have ke39 : kv36 11 = kg13 := by rw [hkv36, va_up_n _ _ (by omega)]; exact ke28
          have ke40 : kv36 10 = kg34 := by rw [hkv36, va_up_s]
          have kf41 : kv36 4 0 = nI 0 := by rw [hkv36, va_up_n _ _ (by omega)]; exact kf30
          have kf42 : kv36 4 1 = nI n := by rw [hkv36, va_up_n _ _ (by omega)]; exact kf31
          have kf43 : kv36 4 2 = nI k := by rw [hkv36, va_up_n _ _ (by omega)]; exact kf32
          have kf44 : kv36 4 10 = v 4 10 := by rw [hkv36, va_up_n _ _ (by omega)]; exact kf33
          refine lv_iconst (v := nI 0) hx hb dX3_swap_83 (by decide) ?_
          refine lv_istore (lv' := [(4, .int (nI 0)), (0, .ref (ad 4)), (1, .int (nI i)), (2, .int (nI a)), (3, .int (nI b9))]) hx hb dX3_swap_84 hl (by decide) rfl (fun ls hl => ?_)
          refine lv_iconst (v := nI 1) hx hb dX3_swap_86 (by decide) ?_
          refine lv_istore (lv' := [(5, .int (nI 1)), (4, .int (nI 0)), (0, .ref (ad 4)), (1, .int (nI i)), (2, .int (nI a)), (3, .int (nI b9))]) hx hb dX3_swap_87 hl (by decide) rfl (fun ls hl => ?_)
          refine mx_loop (β := Nat) (fun n9 (q : Nat) H locs ls => n9 = 31 - q ∧ (q ≤ 31) ∧ mE G (mA ad (Sy cy ad cn ck v o) s.heap.size) s.heap ad (Sy cy ad cn ck kv36 o) H locs ∧ lv_has ls 6 [(5, .int (nI (q + 1))), (4, .int (nI (mApart kg34 kg13 q))), (0, .ref (ad 4)), (1, .int (nI i)), (2, .int (nI a)), (3, .int (nI b9))]) ?_ (31 - 0) (0) _ _ _ ⟨rfl, (by omega), hE, lv_sub hl [0, 1, 2, 3, 4, 5] rfl⟩
          intro n9 q H locs ls hI ih45
          obtain ⟨hn46, hle, hE, hl⟩ := hI
          have hE : mE G (mA ad (Sy cy ad cn ck v o) s.heap.size) s.heap ad (Sy cy ad cn ck kv36 o) H locs := hE
          have hl : lv_has ls 6 [(5, .int (nI (q + 1))), (4, .int (nI (mApart kg34 kg13 q))), (0, .ref (ad 4)), (1, .int (nI i)), (2, .int (nI a)), (3, .int (nI b9))] := hl
          refine lv_iload hx hb dX3_swap_89 (lv_at hl 0 rfl) ?_
          refine lv_bipush (v := nI 32) hx hb dX3_swap_91 (by decide) ?_
          refine mv_ge (tgt := 129) hx hb (by omega) (by omega) dX3_swap_93 (by decide) (fun c47 => ?_) (fun c47 => ?_)
          · skip
            refine lv_iload hx hb dX3_swap_129 (lv_at hl 1 rfl) ?_
            exact mx_iret hx hb hr hE hlocks ⟨by rw [show q = 31 by omega]; exact congrArg nI (mApart_eq (mCon_S kq35) (mCon_S kq14) 31 (by decide)), ⟨kv36, rfl, fun w h4 h5w h6w h10 h11 => ((show kv36 w = kv25 w by rw [hkv36, va_up_n _ _ h10]).trans ((show kv25 w = kv15 w by rw [hkv25, va_up_n _ _ h5w]).trans ((show kv15 w = kv1 w by rw [hkv15, va_up_n _ _ h11]).trans (show kv1 w = v w by rw [hkv1, va_up_n _ _ h4])))), kf41, (kf42.trans hm1.symm), (kf43.trans hm2.symm), ke37, (ke38.trans (if_pos c24).symm)⟩⟩ dX3_swap_131
          · skip
            refine lv_iload hx hb dX3_swap_96 (lv_at hl 1 rfl) ?_
            refine lv_aload_n hx hb dX3_swap_98 rfl (lv_at hl 2 rfl) ?_
            refine va_get (D := G) (ci := 3) (v := .ref (ad 10)) (C := RX3) (T := TX3) (N := 11) hx hb hts hiX3 hown hN.1 (mE_P1 hE (S_4f kf41 kf42 kf43 kf44)) 0 rfl rfl 8 (by decide) (hts (.fieldLink RX3 25 "SealedCupboardsModel" "sums" "[I") (by decide +kernel)) (fun _ h9 => h9) rfl dX3_swap_99 ?_
            refine lv_iload hx hb dX3_swap_102 (lv_at hl 0 rfl) ?_
            refine mx_iald hx hb hN hE (S_10e ke40) (j := q + 1) rfl (by omega) (by decide) dX3_swap_104 ?_
            refine lv_aload_n hx hb dX3_swap_105 rfl (lv_at hl 2 rfl) ?_
            refine va_get (D := G) (ci := 3) (v := .ref (ad 11)) (C := RX3) (T := TX3) (N := 11) hx hb hts hiX3 hown hN.1 (mE_P1 hE (S_4f kf41 kf42 kf43 kf44)) 0 rfl rfl 9 (by decide) (hts (.fieldLink RX3 28 "SealedCupboardsModel" "others" "[I") (by decide +kernel)) (fun _ h9 => h9) rfl dX3_swap_106 ?_
            refine lv_iload hx hb dX3_swap_109 (lv_at hl 0 rfl) ?_
            refine mx_iald hx hb hN hE (S_11e ke39) (j := q + 1) rfl (by omega) (by decide) dX3_swap_111 ?_
            refine lv_icmp_ne (tgt := 119) hx hb dX3_swap_112 (by decide) (fun c48 => ?_) (fun c48 => ?_)
            · skip
              refine lv_iconst (v := nI 1) hx hb dX3_swap_119 (by decide) ?_
              refine mv_iadd (z := nI ((mApart kg34 kg13 q) + 1)) hx hb (nI_add _ _) dX3_swap_120 ?_
              refine lv_istore (lv' := [(4, .int (nI ((mApart kg34 kg13 q) + 1))), (5, .int (nI (q + 1))), (0, .ref (ad 4)), (1, .int (nI i)), (2, .int (nI a)), (3, .int (nI b9))]) hx hb dX3_swap_121 hl (by decide) rfl (fun ls hl => ?_)
              have e9 : mApart kg34 kg13 q + 1 = mApart kg34 kg13 (q + 1) := by simp only [mApart]; rw [if_neg c48]
              rw [e9] at hl
              refine lv_iinc (v := nI ((q + 1) + 1)) (lv' := [(5, .int (nI ((q + 1) + 1))), (4, .int (nI (mApart kg34 kg13 (q + 1)))), (0, .ref (ad 4)), (1, .int (nI i)), (2, .int (nI a)), (3, .int (nI b9))]) hx hb dX3_swap_123 hl (k := 1) rfl (nI_add _ _) (by decide) rfl (fun ls hl => ?_)
              refine lv_goto (tgt := 89) hx hb dX3_swap_126 (by decide) ?_
              exact ih45 (31 - (q + 1)) (q + 1) _ _ _ (by rw [hn46]; omega) ⟨rfl, (by omega), hE, lv_sub hl [0, 1, 2, 3, 4, 5] rfl⟩
            · skip
              refine lv_iconst (v := nI 0) hx hb dX3_swap_115 (by decide) ?_
              refine lv_goto (tgt := 120) hx hb dX3_swap_116 (by decide) ?_
              refine mv_iadd (z := nI ((mApart kg34 kg13 q) + 0)) hx hb (nI_add _ _) dX3_swap_120 ?_
              refine lv_istore (lv' := [(4, .int (nI ((mApart kg34 kg13 q) + 0))), (5, .int (nI (q + 1))), (0, .ref (ad 4)), (1, .int (nI i)), (2, .int (nI a)), (3, .int (nI b9))]) hx hb dX3_swap_121 hl (by decide) rfl (fun ls hl => ?_)
              have e9 : mApart kg34 kg13 q + 0 = mApart kg34 kg13 (q + 1) := by simp only [mApart]; rw [if_pos c48]
              rw [e9] at hl
              refine lv_iinc (v := nI ((q + 1) + 1)) (lv' := [(5, .int (nI ((q + 1) + 1))), (4, .int (nI (mApart kg34 kg13 (q + 1)))), (0, .ref (ad 4)), (1, .int (nI i)), (2, .int (nI a)), (3, .int (nI b9))]) hx hb dX3_swap_123 hl (k := 1) rfl (nI_add _ _) (by decide) rfl (fun ls hl => ?_)
              refine lv_goto (tgt := 89) hx hb dX3_swap_126 (by decide) ?_
              exact ih45 (31 - (q + 1)) (q + 1) _ _ _ (by rw [hn46]; omega) ⟨rfl, (by omega), hE, lv_sub hl [0, 1, 2, 3, 4, 5] rfl⟩
        · skip
          refine lv_aload_n hx hb dX3_swap_57 rfl (lv_at hl 0 rfl) ?_
          refine va_get (D := G) (ci := 3) (v := .ref (ad 6)) (C := RX3) (T := TX3) (N := 11) hx hb hts hiX3 hown hN.1 (mE_P1 hE (S_4f kf20 kf21 kf22 kf23)) 0 rfl rfl 4 (by decide) (hts (.fieldLink RX3 13 "SealedCupboardsModel" "changes" "[I") (by decide +kernel)) (fun _ h9 => h9) rfl dX3_swap_58 ?_
          refine lv_iload_n hx hb dX3_swap_61 rfl (lv_at hl 1 rfl) ?_
          refine lv_dup2_11 hx hb dX3_swap_62 rfl rfl ?_
          refine mx_iald hx hb hN hE (S_6e ke17) (j := i) rfl (by omega) (by decide) dX3_swap_63 ?_
          refine lv_iconst (v := nI 2) hx hb dX3_swap_64 (by decide) ?_
          refine mv_iadd (z := (f6 i) + (nI 2)) hx hb rfl dX3_swap_65 ?_
          refine mx_iast hx hb hN hE (S_6e ke17) (j := i) rfl (by omega) (by decide) dX3_swap_66 (fun H locs hE => ?_)
          obtain ⟨kv49, hkv49⟩ : ∃ y99, y99 = va_up kv15 6 (upd (f6) i ((f6 i) + (nI 2))) := ⟨_, rfl⟩
          have hE : mE G (mA ad (Sy cy ad cn ck v o) s.heap.size) s.heap ad (Sy cy ad cn ck kv49 o) H locs := by rw [hkv49]; exact (S_up sy_6) ▸ hE
          have ke50 : kv49 5 = f5 := by rw [hkv49, va_up_n _ _ (by omega)]; exact ke16
          have ke51 : kv49 10 = v 10 := by rw [hkv49, va_up_n _ _ (by omega)]; exact ke18
          have ke52 : kv49 11 = kg13 := by rw [hkv49, va_up_n _ _ (by omega)]; exact ke19
          have ke53 : kv49 6 = (upd (f6) i ((f6 i) + (nI 2))) := by rw [hkv49, va_up_s]
          have kf54 : kv49 4 0 = nI 0 := by rw [hkv49, va_up_n _ _ (by omega)]; exact kf20
          have kf55 : kv49 4 1 = nI n := by rw [hkv49, va_up_n _ _ (by omega)]; exact kf21
          have kf56 : kv49 4 2 = nI k := by rw [hkv49, va_up_n _ _ (by omega)]; exact kf22
          have kf57 : kv49 4 10 = v 4 10 := by rw [hkv49, va_up_n _ _ (by omega)]; exact kf23
          refine lv_aload_n hx hb dX3_swap_67 rfl (lv_at hl 0 rfl) ?_
          refine lv_iload_n hx hb dX3_swap_68 rfl (lv_at hl 1 rfl) ?_
          refine lv_iload_n hx hb dX3_swap_69 rfl (lv_at hl 2 rfl) ?_
          refine lv_iload_n hx hb dX3_swap_70 rfl (lv_at hl 3 rfl) ?_
          refine va_callv (va_runV (As := [.int (nI i), .int (nI a), .int (nI b9)]) (rest := []) ⟨hx, hb, hml, hown, hts⟩ (c_X3_exchange l G cy ad cn ck n k kv49 o hn hk _ kf55 kf56 i a b9 h_i (by omega) (by omega) ke50) (cwV 3 hts gX3_swap_X3_exchange rfl rfl rfl (by decide +kernel) ⟨Nat.le_of_ble_eq_true rfl, Nat.le_of_ble_eq_true rfl⟩) (mP_V (r := (RX3, TX3, 11)) hN hE (S_4f kf54 kf55 kf56 kf57) rfl) rfl rfl hl.1 rfl (lv_room (Nat.le_of_ble_eq_true rfl)) dX3_swap_71 ⟨Nat.le_of_ble_eq_true rfl, Nat.le_of_ble_eq_true rfl⟩) hE.2.2.2 (fun q _ h => mE_A hE q h) (mE_A hE) (fun uq tq H locs ht hvm hw hB hz1 hk1 hS => ?_)
          subst hw
          have hE : mE G (mA ad (Sy cy ad cn ck v o) s.heap.size) s.heap ad (Sy cy ad cn ck (va_up kv49 5 (mX5 f5 i a b9)) o) H locs := mE_call hE hB ht hS
          obtain ⟨kv58, hkv58⟩ : ∃ y99, y99 = va_up kv49 5 (mX5 f5 i a b9) := ⟨_, rfl⟩
          have hE : mE G (mA ad (Sy cy ad cn ck v o) s.heap.size) s.heap ad (Sy cy ad cn ck kv58 o) H locs := by rw [hkv58]; exact hE
          have ke59 : kv58 6 = (upd (f6) i ((f6 i) + (nI 2))) := by rw [hkv58, va_up_n _ _ (by omega)]; exact ke53
          have ke60 : kv58 10 = v 10 := by rw [hkv58, va_up_n _ _ (by omega)]; exact ke51
          have ke61 : kv58 11 = kg13 := by rw [hkv58, va_up_n _ _ (by omega)]; exact ke52
          have ke62 : kv58 5 = (mX5 f5 i a b9) := by rw [hkv58, va_up_s]
          have kf63 : kv58 4 0 = nI 0 := by rw [hkv58, va_up_n _ _ (by omega)]; exact kf54
          have kf64 : kv58 4 1 = nI n := by rw [hkv58, va_up_n _ _ (by omega)]; exact kf55
          have kf65 : kv58 4 2 = nI k := by rw [hkv58, va_up_n _ _ (by omega)]; exact kf56
          have kf66 : kv58 4 10 = v 4 10 := by rw [hkv58, va_up_n _ _ (by omega)]; exact kf57
          refine lv_aload_n hx hb dX3_swap_74 rfl (lv_at hl 0 rfl) ?_
          refine lv_iload_n hx hb dX3_swap_75 rfl (lv_at hl 1 rfl) ?_
          refine lv_aload_n hx hb dX3_swap_76 rfl (lv_at hl 0 rfl) ?_
          refine va_get (D := G) (ci := 3) (v := .ref (ad 10)) (C := RX3) (T := TX3) (N := 11) hx hb hts hiX3 hown hN.1 (mE_P1 hE (S_4f kf63 kf64 kf65 kf66)) 0 rfl rfl 8 (by decide) (hts (.fieldLink RX3 25 "SealedCupboardsModel" "sums" "[I") (by decide +kernel)) (fun _ h9 => h9) rfl dX3_swap_77 ?_
          refine va_callv (va_runV (As := [.int (nI i), .ref (ad 10)]) (rest := []) ⟨hx, hb, hml, hown, hts⟩ (c_X3_reckon l G cy ad cn ck n k kv58 o hn hk _ kf64 kf65 i 10 h_i (fun g => sy_10) (by decide) (by decide) ke62) (cwV 2 hts gX3_swap_X3_reckon rfl rfl rfl (by decide +kernel) ⟨Nat.le_of_ble_eq_true rfl, Nat.le_of_ble_eq_true rfl⟩) (mP_V (r := (RX3, TX3, 11)) hN hE (S_4f kf63 kf64 kf65 kf66) rfl) rfl rfl hl.1 rfl (lv_room (Nat.le_of_ble_eq_true rfl)) dX3_swap_80 ⟨Nat.le_of_ble_eq_true rfl, Nat.le_of_ble_eq_true rfl⟩) hE.2.2.2 (fun q _ h => mE_A hE q h) (mE_A hE) (fun uq tq H locs ht hvm hw hB hz1 hk1 hS => ?_)
          obtain ⟨kg67, rfl, kq68⟩ := hw
          have hE : mE G (mA ad (Sy cy ad cn ck v o) s.heap.size) s.heap ad (Sy cy ad cn ck (va_up kv58 10 kg67) o) H locs := mE_call hE hB ht hS
          obtain ⟨kv69, hkv69⟩ : ∃ y99, y99 = va_up kv58 10 kg67 := ⟨_, rfl⟩
          have hE : mE G (mA ad (Sy cy ad cn ck v o) s.heap.size) s.heap ad (Sy cy ad cn ck kv69 o) H locs := by rw [hkv69]; exact hE
          have ke70 : kv69 5 = (mX5 f5 i a b9) := by rw [hkv69, va_up_n _ _ (by omega)]; exact ke62
          have ke71 : kv69 6 = (upd (f6) i ((f6 i) + (nI 2))) := by rw [hkv69, va_up_n _ _ (by omega)]; exact ke59
          have ke72 : kv69 11 = kg13 := by rw [hkv69, va_up_n _ _ (by omega)]; exact ke61
          have ke73 : kv69 10 = kg67 := by rw [hkv69, va_up_s]
          have kf74 : kv69 4 0 = nI 0 := by rw [hkv69, va_up_n _ _ (by omega)]; exact kf63
          have kf75 : kv69 4 1 = nI n := by rw [hkv69, va_up_n _ _ (by omega)]; exact kf64
          have kf76 : kv69 4 2 = nI k := by rw [hkv69, va_up_n _ _ (by omega)]; exact kf65
          have kf77 : kv69 4 10 = v 4 10 := by rw [hkv69, va_up_n _ _ (by omega)]; exact kf66
          refine lv_iconst (v := nI 0) hx hb dX3_swap_83 (by decide) ?_
          refine lv_istore (lv' := [(4, .int (nI 0)), (0, .ref (ad 4)), (1, .int (nI i)), (2, .int (nI a)), (3, .int (nI b9))]) hx hb dX3_swap_84 hl (by decide) rfl (fun ls hl => ?_)
          refine lv_iconst (v := nI 1) hx hb dX3_swap_86 (by decide) ?_
          refine lv_istore (lv' := [(5, .int (nI 1)), (4, .int (nI 0)), (0, .ref (ad 4)), (1, .int (nI i)), (2, .int (nI a)), (3, .int (nI b9))]) hx hb dX3_swap_87 hl (by decide) rfl (fun ls hl => ?_)
          refine mx_loop (β := Nat) (fun n9 (q : Nat) H locs ls => n9 = 31 - q ∧ (q ≤ 31) ∧ mE G (mA ad (Sy cy ad cn ck v o) s.heap.size) s.heap ad (Sy cy ad cn ck kv69 o) H locs ∧ lv_has ls 6 [(5, .int (nI (q + 1))), (4, .int (nI (mApart kg67 kg13 q))), (0, .ref (ad 4)), (1, .int (nI i)), (2, .int (nI a)), (3, .int (nI b9))]) ?_ (31 - 0) (0) _ _ _ ⟨rfl, (by omega), hE, lv_sub hl [0, 1, 2, 3, 4, 5] rfl⟩
          intro n9 q H locs ls hI ih78
          obtain ⟨hn79, hle, hE, hl⟩ := hI
          have hE : mE G (mA ad (Sy cy ad cn ck v o) s.heap.size) s.heap ad (Sy cy ad cn ck kv69 o) H locs := hE
          have hl : lv_has ls 6 [(5, .int (nI (q + 1))), (4, .int (nI (mApart kg67 kg13 q))), (0, .ref (ad 4)), (1, .int (nI i)), (2, .int (nI a)), (3, .int (nI b9))] := hl
          refine lv_iload hx hb dX3_swap_89 (lv_at hl 0 rfl) ?_
          refine lv_bipush (v := nI 32) hx hb dX3_swap_91 (by decide) ?_
          refine mv_ge (tgt := 129) hx hb (by omega) (by omega) dX3_swap_93 (by decide) (fun c80 => ?_) (fun c80 => ?_)
          · skip
            refine lv_iload hx hb dX3_swap_129 (lv_at hl 1 rfl) ?_
            exact mx_iret hx hb hr hE hlocks ⟨by rw [show q = 31 by omega]; exact congrArg nI (mApart_eq (mCon_S kq68) (mCon_S kq14) 31 (by decide)), ⟨kv69, rfl, fun w h4 h5w h6w h10 h11 => ((show kv69 w = kv58 w by rw [hkv69, va_up_n _ _ h10]).trans ((show kv58 w = kv49 w by rw [hkv58, va_up_n _ _ h5w]).trans ((show kv49 w = kv15 w by rw [hkv49, va_up_n _ _ h6w]).trans ((show kv15 w = kv1 w by rw [hkv15, va_up_n _ _ h11]).trans (show kv1 w = v w by rw [hkv1, va_up_n _ _ h4]))))), kf74, (kf75.trans hm1.symm), (kf76.trans hm2.symm), ke70, (ke71.trans (if_neg c24).symm)⟩⟩ dX3_swap_131
          · skip
            refine lv_iload hx hb dX3_swap_96 (lv_at hl 1 rfl) ?_
            refine lv_aload_n hx hb dX3_swap_98 rfl (lv_at hl 2 rfl) ?_
            refine va_get (D := G) (ci := 3) (v := .ref (ad 10)) (C := RX3) (T := TX3) (N := 11) hx hb hts hiX3 hown hN.1 (mE_P1 hE (S_4f kf74 kf75 kf76 kf77)) 0 rfl rfl 8 (by decide) (hts (.fieldLink RX3 25 "SealedCupboardsModel" "sums" "[I") (by decide +kernel)) (fun _ h9 => h9) rfl dX3_swap_99 ?_
            refine lv_iload hx hb dX3_swap_102 (lv_at hl 0 rfl) ?_
            refine mx_iald hx hb hN hE (S_10e ke73) (j := q + 1) rfl (by omega) (by decide) dX3_swap_104 ?_
            refine lv_aload_n hx hb dX3_swap_105 rfl (lv_at hl 2 rfl) ?_
            refine va_get (D := G) (ci := 3) (v := .ref (ad 11)) (C := RX3) (T := TX3) (N := 11) hx hb hts hiX3 hown hN.1 (mE_P1 hE (S_4f kf74 kf75 kf76 kf77)) 0 rfl rfl 9 (by decide) (hts (.fieldLink RX3 28 "SealedCupboardsModel" "others" "[I") (by decide +kernel)) (fun _ h9 => h9) rfl dX3_swap_106 ?_
            refine lv_iload hx hb dX3_swap_109 (lv_at hl 0 rfl) ?_
            refine mx_iald hx hb hN hE (S_11e ke72) (j := q + 1) rfl (by omega) (by decide) dX3_swap_111 ?_
            refine lv_icmp_ne (tgt := 119) hx hb dX3_swap_112 (by decide) (fun c81 => ?_) (fun c81 => ?_)
            · skip
              refine lv_iconst (v := nI 1) hx hb dX3_swap_119 (by decide) ?_
              refine mv_iadd (z := nI ((mApart kg67 kg13 q) + 1)) hx hb (nI_add _ _) dX3_swap_120 ?_
              refine lv_istore (lv' := [(4, .int (nI ((mApart kg67 kg13 q) + 1))), (5, .int (nI (q + 1))), (0, .ref (ad 4)), (1, .int (nI i)), (2, .int (nI a)), (3, .int (nI b9))]) hx hb dX3_swap_121 hl (by decide) rfl (fun ls hl => ?_)
              have e9 : mApart kg67 kg13 q + 1 = mApart kg67 kg13 (q + 1) := by simp only [mApart]; rw [if_neg c81]
              rw [e9] at hl
              refine lv_iinc (v := nI ((q + 1) + 1)) (lv' := [(5, .int (nI ((q + 1) + 1))), (4, .int (nI (mApart kg67 kg13 (q + 1)))), (0, .ref (ad 4)), (1, .int (nI i)), (2, .int (nI a)), (3, .int (nI b9))]) hx hb dX3_swap_123 hl (k := 1) rfl (nI_add _ _) (by decide) rfl (fun ls hl => ?_)
              refine lv_goto (tgt := 89) hx hb dX3_swap_126 (by decide) ?_
              exact ih78 (31 - (q + 1)) (q + 1) _ _ _ (by rw [hn79]; omega) ⟨rfl, (by omega), hE, lv_sub hl [0, 1, 2, 3, 4, 5] rfl⟩
            · skip
              refine lv_iconst (v := nI 0) hx hb dX3_swap_115 (by decide) ?_
              refine lv_goto (tgt := 120) hx hb dX3_swap_116 (by decide) ?_
              refine mv_iadd (z := nI ((mApart kg67 kg13 q) + 0)) hx hb (nI_add _ _) dX3_swap_120 ?_
              refine lv_istore (lv' := [(4, .int (nI ((mApart kg67 kg13 q) + 0))), (5, .int (nI (q + 1))), (0, .ref (ad 4)), (1, .int (nI i)), (2, .int (nI a)), (3, .int (nI b9))]) hx hb dX3_swap_121 hl (by decide) rfl (fun ls hl => ?_)
              have e9 : mApart kg67 kg13 q + 0 = mApart kg67 kg13 (q + 1) := by simp only [mApart]; rw [if_pos c81]
              rw [e9] at hl
              refine lv_iinc (v := nI ((q + 1) + 1)) (lv' := [(5, .int (nI ((q + 1) + 1))), (4, .int (nI (mApart kg67 kg13 (q + 1)))), (0, .ref (ad 4)), (1, .int (nI i)), (2, .int (nI a)), (3, .int (nI b9))]) hx hb dX3_swap_123 hl (k := 1) rfl (nI_add _ _) (by decide) rfl (fun ls hl => ?_)
              refine lv_goto (tgt := 89) hx hb dX3_swap_126 (by decide) ?_
              exact ih78 (31 - (q + 1)) (q + 1) _ _ _ (by rw [hn79]; omega) ⟨rfl, (by omega), hE, lv_sub hl [0, 1, 2, 3, 4, 5] rfl⟩
      · skip
        have c12 := (mz_eq (by omega)).mp c12
        exfalso; omega

set_option maxHeartbeats 4000000 in
set_option maxRecDepth 100000 in
/-- swap -/
theorem x_X3_swap1 (l : Launch) (G : va_G) (cy : Nat → ClassId) (ad : Nat → Nat) (cn ck n k : Nat) (v : Nat → Nat → Int32) (o : Nat → Int64) (hn : n ≤ 6) (hk : k ≤ 20) (sz : Nat) (hm1 : v 4 1 = nI n) (hm2 : v 4 2 = nI k) (x : Int32) (hbad : x < 0 ∨ nI n ≤ x) (y z : Int32) : mMi l yX3_swap wsX3_swap ({ frames := 9, cells := 0, slots := 0, locals := 180 }) G cy ad (Sy cy ad cn ck v o) sz [.ref (ad 4), .int x, .int y, .int z] 0 0 (fun (r : Int32) u => r = nI 0 ∧ ∃ v' : Nat → Nat → Int32, u = (ad, Sy cy ad cn ck v' o) ∧ mQT v v' (nI 1)) := by
  refine Met.ofW (cc := cX3_swap) (maxL := 6) (ret := (some .int)) (by decide) rfl ?_
  intro p e s m args below meth c s₁ B hml hv
  obtain ⟨rfl, hv⟩ := hv
  have hsz := hv.1
  subst hsz
  have hN := hv.2.2
  have hE := mP_E hv
  have hx := B.exec
  have hb := B.bytes
  have hr := B.returns
  have hts := atoms_spec (ws := wsX3_swap) B.pre
  have hown : s.vm.findClass RX3 = some m.cls := findClass_of_methodNamed B.named
  have hlocks := B.notSynchronized
  have hiX3 : ∀ w ∈ wsX30, w ∈ wsX3_swap := by decide +kernel
  have hl := lv_entry ([.ref (ad 4), .int x, .int y, .int z]) (n := 6) (Nat.le_of_ble_eq_true rfl)
  rw [lg_entry_eq]
  generalize (lg_sl ([.ref (ad 4), .int x, .int y, .int z]) ++ List.replicate (6 - (lg_sl ([.ref (ad 4), .int x, .int y, .int z])).length) Slot.unset).toArray = ls at hl ⊢
  have hl : lv_has ls 6 [(0, .ref (ad 4)), (1, .int x), (2, .int y), (3, .int z)] := hl
  refine lv_aload_n hx hb dX3_swap_0 rfl (lv_at hl 0 rfl) ?_
  refine lv_iconst (v := nI 0) hx hb dX3_swap_1 (by decide) ?_
  refine mx_put (ci := 3) (v := .int (nI 0)) (ty := .int) (C := RX3) (T := TX3) (N := 11) hx hb hts hiX3 tyX3 tyX3_ok nmX3 hown hN hE (S_4f rfl hm1 hm2 rfl) rfl 0 (by decide) (hts (.fieldLink RX3 31 "SealedCupboardsModel" "thrown" "I") (by decide +kernel)) (fun _ h9 => h9) rfl (by decide +kernel) rfl rfl (Nat.le_of_ble_eq_true rfl) dX3_swap_2 (fun H locs hE => ?_)
  obtain ⟨kv1, hkv1⟩ : ∃ y99, y99 = va_up v 4 (upd (v 4) 0 (nI 0)) := ⟨_, rfl⟩
  have hE : mE G (mA ad (Sy cy ad cn ck v o) s.heap.size) s.heap ad (Sy cy ad cn ck kv1 o) H locs := by rw [hkv1]; exact (S_4u (upd_s _ _ _) ((upd_n _ _ (by decide)).trans hm1) ((upd_n _ _ (by decide)).trans hm2) ((upd_n _ _ (by decide)).trans rfl)) ▸ hE
  have kf2 : kv1 4 0 = nI 0 := by rw [hkv1, va_up_s, upd_s]
  have kf3 : kv1 4 1 = nI n := by rw [hkv1, va_up_s, upd_n _ _ (by decide)]; exact hm1
  have kf4 : kv1 4 2 = nI k := by rw [hkv1, va_up_s, upd_n _ _ (by decide)]; exact hm2
  have kf5 : kv1 4 10 = v 4 10 := by rw [hkv1, va_up_s, upd_n _ _ (by decide)]
  refine lv_aload_n hx hb dX3_swap_5 rfl (lv_at hl 0 rfl) ?_
  refine lv_iload_n hx hb dX3_swap_6 rfl (lv_at hl 1 rfl) ?_
  refine va_calli (va_runV (As := [.int x]) (rest := []) ⟨hx, hb, hml, hown, hts⟩ (x_X3_isCupboard l G cy ad cn ck n k kv1 o hn hk _ kf3 kf4 x hbad) (cwV 1 hts gX3_swap_X3_isCupboard rfl rfl rfl (by decide +kernel) ⟨Nat.le_of_ble_eq_true rfl, Nat.le_of_ble_eq_true rfl⟩) (mP_V (r := (RX3, TX3, 11)) hN hE (S_4f kf2 kf3 kf4 kf5) rfl) rfl rfl hl.1 rfl (lv_room (Nat.le_of_ble_eq_true rfl)) dX3_swap_7 ⟨Nat.le_of_ble_eq_true rfl, Nat.le_of_ble_eq_true rfl⟩) hE.2.2.2 (fun q _ h => mE_A hE q h) (mE_A hE) (fun r uq tq H locs ht hvm hw hB hz1 hk1 hS => ?_)
  obtain ⟨rfl, rfl⟩ := hw
  have hE : mE G (mA ad (Sy cy ad cn ck v o) s.heap.size) s.heap ad (Sy cy ad cn ck kv1 o) H locs := mE_call hE hB ht hS
  refine lv_if_eq (tgt := 27) hx hb dX3_swap_10 (by decide) (fun c6 => ?_) (fun c6 => ?_)
  · skip
    have c6 := (mz_eq (by omega)).mp c6
    refine lv_aload_n hx hb dX3_swap_27 rfl (lv_at hl 0 rfl) ?_
    refine lv_iconst (v := nI 1) hx hb dX3_swap_28 (by decide) ?_
    refine va_calli (va_runV (As := [.int (nI 1)]) (rest := []) ⟨hx, hb, hml, hown, hts⟩ (c_X3_fail l G cy ad cn ck n k kv1 o hn hk _ kf3 kf4 (nI 1)) (cwV 1 hts gX3_swap_X3_fail rfl rfl rfl (by decide +kernel) ⟨Nat.le_of_ble_eq_true rfl, Nat.le_of_ble_eq_true rfl⟩) (mP_V (r := (RX3, TX3, 11)) hN hE (S_4f kf2 kf3 kf4 kf5) rfl) rfl rfl hl.1 rfl (lv_room (Nat.le_of_ble_eq_true rfl)) dX3_swap_29 ⟨Nat.le_of_ble_eq_true rfl, Nat.le_of_ble_eq_true rfl⟩) hE.2.2.2 (fun q _ h => mE_A hE q h) (mE_A hE) (fun r uq tq H locs ht hvm hw hB hz1 hk1 hS => ?_)
    obtain ⟨rfl, kv7, rfl, kq8⟩ := hw
    have hE : mE G (mA ad (Sy cy ad cn ck v o) s.heap.size) s.heap ad (Sy cy ad cn ck kv7 o) H locs := mE_call hE hB ht hS
    have kf9 : kv7 4 0 = nI 1 := kq8.2.1
    have kf10 : kv7 4 1 = nI n := (kq8.2.2.1).trans kf3
    have kf11 : kv7 4 2 = nI k := (kq8.2.2.2).trans kf4
    exact mx_iret hx hb hr hE hlocks ⟨rfl, ⟨kv7, rfl, fun w h4 h10 h11 => ((kq8.1 w h4 h10 h11).trans (show kv1 w = v w by rw [hkv1, va_up_n _ _ h4])), kf9, (kf10.trans hm1.symm), (kf11.trans hm2.symm)⟩⟩ dX3_swap_32
  · skip
    have c6 : ¬ 0 = 0 := fun h9 => c6 ((mz_eq (by omega)).mpr h9)
    exfalso; omega

set_option maxHeartbeats 4000000 in
set_option maxRecDepth 100000 in
/-- swap -/
theorem x_X3_swap2 (l : Launch) (G : va_G) (cy : Nat → ClassId) (ad : Nat → Nat) (cn ck n k : Nat) (v : Nat → Nat → Int32) (o : Nat → Int64) (hn : n ≤ 6) (hk : k ≤ 20) (sz : Nat) (hm1 : v 4 1 = nI n) (hm2 : v 4 2 = nI k) (i : Nat) (h_i : i < n) (x : Int32) (hbad : x < 0 ∨ nI 16 ≤ x) (z : Int32) : mMi l yX3_swap wsX3_swap ({ frames := 9, cells := 0, slots := 0, locals := 180 }) G cy ad (Sy cy ad cn ck v o) sz [.ref (ad 4), .int (nI i), .int x, .int z] 0 0 (fun (r : Int32) u => r = nI 0 ∧ ∃ v' : Nat → Nat → Int32, u = (ad, Sy cy ad cn ck v' o) ∧ mQT v v' (nI 1)) := by
  refine Met.ofW (cc := cX3_swap) (maxL := 6) (ret := (some .int)) (by decide) rfl ?_
  intro p e s m args below meth c s₁ B hml hv
  obtain ⟨rfl, hv⟩ := hv
  have hsz := hv.1
  subst hsz
  have hN := hv.2.2
  have hE := mP_E hv
  have hx := B.exec
  have hb := B.bytes
  have hr := B.returns
  have hts := atoms_spec (ws := wsX3_swap) B.pre
  have hown : s.vm.findClass RX3 = some m.cls := findClass_of_methodNamed B.named
  have hlocks := B.notSynchronized
  have hiX3 : ∀ w ∈ wsX30, w ∈ wsX3_swap := by decide +kernel
  have hl := lv_entry ([.ref (ad 4), .int (nI i), .int x, .int z]) (n := 6) (Nat.le_of_ble_eq_true rfl)
  rw [lg_entry_eq]
  generalize (lg_sl ([.ref (ad 4), .int (nI i), .int x, .int z]) ++ List.replicate (6 - (lg_sl ([.ref (ad 4), .int (nI i), .int x, .int z])).length) Slot.unset).toArray = ls at hl ⊢
  have hl : lv_has ls 6 [(0, .ref (ad 4)), (1, .int (nI i)), (2, .int x), (3, .int z)] := hl
  refine lv_aload_n hx hb dX3_swap_0 rfl (lv_at hl 0 rfl) ?_
  refine lv_iconst (v := nI 0) hx hb dX3_swap_1 (by decide) ?_
  refine mx_put (ci := 3) (v := .int (nI 0)) (ty := .int) (C := RX3) (T := TX3) (N := 11) hx hb hts hiX3 tyX3 tyX3_ok nmX3 hown hN hE (S_4f rfl hm1 hm2 rfl) rfl 0 (by decide) (hts (.fieldLink RX3 31 "SealedCupboardsModel" "thrown" "I") (by decide +kernel)) (fun _ h9 => h9) rfl (by decide +kernel) rfl rfl (Nat.le_of_ble_eq_true rfl) dX3_swap_2 (fun H locs hE => ?_)
  obtain ⟨kv1, hkv1⟩ : ∃ y99, y99 = va_up v 4 (upd (v 4) 0 (nI 0)) := ⟨_, rfl⟩
  have hE : mE G (mA ad (Sy cy ad cn ck v o) s.heap.size) s.heap ad (Sy cy ad cn ck kv1 o) H locs := by rw [hkv1]; exact (S_4u (upd_s _ _ _) ((upd_n _ _ (by decide)).trans hm1) ((upd_n _ _ (by decide)).trans hm2) ((upd_n _ _ (by decide)).trans rfl)) ▸ hE
  have kf2 : kv1 4 0 = nI 0 := by rw [hkv1, va_up_s, upd_s]
  have kf3 : kv1 4 1 = nI n := by rw [hkv1, va_up_s, upd_n _ _ (by decide)]; exact hm1
  have kf4 : kv1 4 2 = nI k := by rw [hkv1, va_up_s, upd_n _ _ (by decide)]; exact hm2
  have kf5 : kv1 4 10 = v 4 10 := by rw [hkv1, va_up_s, upd_n _ _ (by decide)]
  refine lv_aload_n hx hb dX3_swap_5 rfl (lv_at hl 0 rfl) ?_
  refine lv_iload_n hx hb dX3_swap_6 rfl (lv_at hl 1 rfl) ?_
  refine va_calli (va_runV (As := [.int (nI i)]) (rest := []) ⟨hx, hb, hml, hown, hts⟩ (c_X3_isCupboard l G cy ad cn ck n k kv1 o hn hk _ kf3 kf4 i h_i) (cwV 1 hts gX3_swap_X3_isCupboard rfl rfl rfl (by decide +kernel) ⟨Nat.le_of_ble_eq_true rfl, Nat.le_of_ble_eq_true rfl⟩) (mP_V (r := (RX3, TX3, 11)) hN hE (S_4f kf2 kf3 kf4 kf5) rfl) rfl rfl hl.1 rfl (lv_room (Nat.le_of_ble_eq_true rfl)) dX3_swap_7 ⟨Nat.le_of_ble_eq_true rfl, Nat.le_of_ble_eq_true rfl⟩) hE.2.2.2 (fun q _ h => mE_A hE q h) (mE_A hE) (fun r uq tq H locs ht hvm hw hB hz1 hk1 hS => ?_)
  obtain ⟨rfl, rfl⟩ := hw
  have hE : mE G (mA ad (Sy cy ad cn ck v o) s.heap.size) s.heap ad (Sy cy ad cn ck kv1 o) H locs := mE_call hE hB ht hS
  refine lv_if_eq (tgt := 27) hx hb dX3_swap_10 (by decide) (fun c6 => ?_) (fun c6 => ?_)
  · skip
    have c6 := (mz_eq (by omega)).mp c6
    exfalso; omega
  · skip
    have c6 : ¬ 1 = 0 := fun h9 => c6 ((mz_eq (by omega)).mpr h9)
    refine lv_iload_n hx hb dX3_swap_13 rfl (lv_at hl 2 rfl) ?_
    refine va_calli (va_runS (As := [.int x]) (rest := []) ⟨hx, hb, hml, hown, hts⟩ (x_X3_isDrawer l G cy ad (Sy cy ad cn ck kv1 o) _ x hbad) (va_cwS 1 hts gX3_swap_X3_isDrawer rfl rfl rfl (by decide +kernel) ⟨Nat.le_of_ble_eq_true rfl, Nat.le_of_ble_eq_true rfl⟩) (mP_S hN hE) rfl rfl hl.1 rfl (lv_room (Nat.le_of_ble_eq_true rfl)) dX3_swap_14 ⟨Nat.le_of_ble_eq_true rfl, Nat.le_of_ble_eq_true rfl⟩) hE.2.2.2 (fun q _ h => mE_A hE q h) (mE_A hE) (fun r uq tq H locs ht hvm hw hB hz1 hk1 hS => ?_)
    obtain ⟨rfl, rfl⟩ := hw
    have hE : mE G (mA ad (Sy cy ad cn ck v o) s.heap.size) s.heap ad (Sy cy ad cn ck kv1 o) H locs := mE_call hE hB ht hS
    refine lv_if_eq (tgt := 27) hx hb dX3_swap_17 (by decide) (fun c7 => ?_) (fun c7 => ?_)
    · skip
      have c7 := (mz_eq (by omega)).mp c7
      refine lv_aload_n hx hb dX3_swap_27 rfl (lv_at hl 0 rfl) ?_
      refine lv_iconst (v := nI 1) hx hb dX3_swap_28 (by decide) ?_
      refine va_calli (va_runV (As := [.int (nI 1)]) (rest := []) ⟨hx, hb, hml, hown, hts⟩ (c_X3_fail l G cy ad cn ck n k kv1 o hn hk _ kf3 kf4 (nI 1)) (cwV 1 hts gX3_swap_X3_fail rfl rfl rfl (by decide +kernel) ⟨Nat.le_of_ble_eq_true rfl, Nat.le_of_ble_eq_true rfl⟩) (mP_V (r := (RX3, TX3, 11)) hN hE (S_4f kf2 kf3 kf4 kf5) rfl) rfl rfl hl.1 rfl (lv_room (Nat.le_of_ble_eq_true rfl)) dX3_swap_29 ⟨Nat.le_of_ble_eq_true rfl, Nat.le_of_ble_eq_true rfl⟩) hE.2.2.2 (fun q _ h => mE_A hE q h) (mE_A hE) (fun r uq tq H locs ht hvm hw hB hz1 hk1 hS => ?_)
      obtain ⟨rfl, kv8, rfl, kq9⟩ := hw
      have hE : mE G (mA ad (Sy cy ad cn ck v o) s.heap.size) s.heap ad (Sy cy ad cn ck kv8 o) H locs := mE_call hE hB ht hS
      have kf10 : kv8 4 0 = nI 1 := kq9.2.1
      have kf11 : kv8 4 1 = nI n := (kq9.2.2.1).trans kf3
      have kf12 : kv8 4 2 = nI k := (kq9.2.2.2).trans kf4
      exact mx_iret hx hb hr hE hlocks ⟨rfl, ⟨kv8, rfl, fun w h4 h10 h11 => ((kq9.1 w h4 h10 h11).trans (show kv1 w = v w by rw [hkv1, va_up_n _ _ h4])), kf10, (kf11.trans hm1.symm), (kf12.trans hm2.symm)⟩⟩ dX3_swap_32
    · skip
      have c7 : ¬ 0 = 0 := fun h9 => c7 ((mz_eq (by omega)).mpr h9)
      exfalso; omega

set_option maxHeartbeats 4000000 in
set_option maxRecDepth 100000 in
/-- swap -/
theorem x_X3_swap3 (l : Launch) (G : va_G) (cy : Nat → ClassId) (ad : Nat → Nat) (cn ck n k : Nat) (v : Nat → Nat → Int32) (o : Nat → Int64) (hn : n ≤ 6) (hk : k ≤ 20) (sz : Nat) (hm1 : v 4 1 = nI n) (hm2 : v 4 2 = nI k) (i d : Nat) (h_i : i < n) (hd : d < 16) (x : Int32) (hbad : x < 0 ∨ nI 16 ≤ x) : mMi l yX3_swap wsX3_swap ({ frames := 9, cells := 0, slots := 0, locals := 180 }) G cy ad (Sy cy ad cn ck v o) sz [.ref (ad 4), .int (nI i), .int (nI d), .int x] 0 0 (fun (r : Int32) u => r = nI 0 ∧ ∃ v' : Nat → Nat → Int32, u = (ad, Sy cy ad cn ck v' o) ∧ mQT v v' (nI 1)) := by
  refine Met.ofW (cc := cX3_swap) (maxL := 6) (ret := (some .int)) (by decide) rfl ?_
  intro p e s m args below meth c s₁ B hml hv
  obtain ⟨rfl, hv⟩ := hv
  have hsz := hv.1
  subst hsz
  have hN := hv.2.2
  have hE := mP_E hv
  have hx := B.exec
  have hb := B.bytes
  have hr := B.returns
  have hts := atoms_spec (ws := wsX3_swap) B.pre
  have hown : s.vm.findClass RX3 = some m.cls := findClass_of_methodNamed B.named
  have hlocks := B.notSynchronized
  have hiX3 : ∀ w ∈ wsX30, w ∈ wsX3_swap := by decide +kernel
  have hl := lv_entry ([.ref (ad 4), .int (nI i), .int (nI d), .int x]) (n := 6) (Nat.le_of_ble_eq_true rfl)
  rw [lg_entry_eq]
  generalize (lg_sl ([.ref (ad 4), .int (nI i), .int (nI d), .int x]) ++ List.replicate (6 - (lg_sl ([.ref (ad 4), .int (nI i), .int (nI d), .int x])).length) Slot.unset).toArray = ls at hl ⊢
  have hl : lv_has ls 6 [(0, .ref (ad 4)), (1, .int (nI i)), (2, .int (nI d)), (3, .int x)] := hl
  refine lv_aload_n hx hb dX3_swap_0 rfl (lv_at hl 0 rfl) ?_
  refine lv_iconst (v := nI 0) hx hb dX3_swap_1 (by decide) ?_
  refine mx_put (ci := 3) (v := .int (nI 0)) (ty := .int) (C := RX3) (T := TX3) (N := 11) hx hb hts hiX3 tyX3 tyX3_ok nmX3 hown hN hE (S_4f rfl hm1 hm2 rfl) rfl 0 (by decide) (hts (.fieldLink RX3 31 "SealedCupboardsModel" "thrown" "I") (by decide +kernel)) (fun _ h9 => h9) rfl (by decide +kernel) rfl rfl (Nat.le_of_ble_eq_true rfl) dX3_swap_2 (fun H locs hE => ?_)
  obtain ⟨kv1, hkv1⟩ : ∃ y99, y99 = va_up v 4 (upd (v 4) 0 (nI 0)) := ⟨_, rfl⟩
  have hE : mE G (mA ad (Sy cy ad cn ck v o) s.heap.size) s.heap ad (Sy cy ad cn ck kv1 o) H locs := by rw [hkv1]; exact (S_4u (upd_s _ _ _) ((upd_n _ _ (by decide)).trans hm1) ((upd_n _ _ (by decide)).trans hm2) ((upd_n _ _ (by decide)).trans rfl)) ▸ hE
  have kf2 : kv1 4 0 = nI 0 := by rw [hkv1, va_up_s, upd_s]
  have kf3 : kv1 4 1 = nI n := by rw [hkv1, va_up_s, upd_n _ _ (by decide)]; exact hm1
  have kf4 : kv1 4 2 = nI k := by rw [hkv1, va_up_s, upd_n _ _ (by decide)]; exact hm2
  have kf5 : kv1 4 10 = v 4 10 := by rw [hkv1, va_up_s, upd_n _ _ (by decide)]
  refine lv_aload_n hx hb dX3_swap_5 rfl (lv_at hl 0 rfl) ?_
  refine lv_iload_n hx hb dX3_swap_6 rfl (lv_at hl 1 rfl) ?_
  refine va_calli (va_runV (As := [.int (nI i)]) (rest := []) ⟨hx, hb, hml, hown, hts⟩ (c_X3_isCupboard l G cy ad cn ck n k kv1 o hn hk _ kf3 kf4 i h_i) (cwV 1 hts gX3_swap_X3_isCupboard rfl rfl rfl (by decide +kernel) ⟨Nat.le_of_ble_eq_true rfl, Nat.le_of_ble_eq_true rfl⟩) (mP_V (r := (RX3, TX3, 11)) hN hE (S_4f kf2 kf3 kf4 kf5) rfl) rfl rfl hl.1 rfl (lv_room (Nat.le_of_ble_eq_true rfl)) dX3_swap_7 ⟨Nat.le_of_ble_eq_true rfl, Nat.le_of_ble_eq_true rfl⟩) hE.2.2.2 (fun q _ h => mE_A hE q h) (mE_A hE) (fun r uq tq H locs ht hvm hw hB hz1 hk1 hS => ?_)
  obtain ⟨rfl, rfl⟩ := hw
  have hE : mE G (mA ad (Sy cy ad cn ck v o) s.heap.size) s.heap ad (Sy cy ad cn ck kv1 o) H locs := mE_call hE hB ht hS
  refine lv_if_eq (tgt := 27) hx hb dX3_swap_10 (by decide) (fun c6 => ?_) (fun c6 => ?_)
  · skip
    have c6 := (mz_eq (by omega)).mp c6
    exfalso; omega
  · skip
    have c6 : ¬ 1 = 0 := fun h9 => c6 ((mz_eq (by omega)).mpr h9)
    refine lv_iload_n hx hb dX3_swap_13 rfl (lv_at hl 2 rfl) ?_
    refine va_calli (va_runS (As := [.int (nI d)]) (rest := []) ⟨hx, hb, hml, hown, hts⟩ (c_X3_isDrawer l G cy ad (Sy cy ad cn ck kv1 o) _ d (by omega)) (va_cwS 1 hts gX3_swap_X3_isDrawer rfl rfl rfl (by decide +kernel) ⟨Nat.le_of_ble_eq_true rfl, Nat.le_of_ble_eq_true rfl⟩) (mP_S hN hE) rfl rfl hl.1 rfl (lv_room (Nat.le_of_ble_eq_true rfl)) dX3_swap_14 ⟨Nat.le_of_ble_eq_true rfl, Nat.le_of_ble_eq_true rfl⟩) hE.2.2.2 (fun q _ h => mE_A hE q h) (mE_A hE) (fun r uq tq H locs ht hvm hw hB hz1 hk1 hS => ?_)
    obtain ⟨rfl, rfl⟩ := hw
    have hE : mE G (mA ad (Sy cy ad cn ck v o) s.heap.size) s.heap ad (Sy cy ad cn ck kv1 o) H locs := mE_call hE hB ht hS
    refine lv_if_eq (tgt := 27) hx hb dX3_swap_17 (by decide) (fun c7 => ?_) (fun c7 => ?_)
    · skip
      have c7 := (mz_eq (by omega)).mp c7
      exfalso; omega
    · skip
      have c7 : ¬ 1 = 0 := fun h9 => c7 ((mz_eq (by omega)).mpr h9)
      refine lv_iload_n hx hb dX3_swap_20 rfl (lv_at hl 3 rfl) ?_
      refine va_calli (va_runS (As := [.int x]) (rest := []) ⟨hx, hb, hml, hown, hts⟩ (x_X3_isDrawer l G cy ad (Sy cy ad cn ck kv1 o) _ x hbad) (va_cwS 1 hts gX3_swap_X3_isDrawer rfl rfl rfl (by decide +kernel) ⟨Nat.le_of_ble_eq_true rfl, Nat.le_of_ble_eq_true rfl⟩) (mP_S hN hE) rfl rfl hl.1 rfl (lv_room (Nat.le_of_ble_eq_true rfl)) dX3_swap_21 ⟨Nat.le_of_ble_eq_true rfl, Nat.le_of_ble_eq_true rfl⟩) hE.2.2.2 (fun q _ h => mE_A hE q h) (mE_A hE) (fun r uq tq H locs ht hvm hw hB hz1 hk1 hS => ?_)
      obtain ⟨rfl, rfl⟩ := hw
      have hE : mE G (mA ad (Sy cy ad cn ck v o) s.heap.size) s.heap ad (Sy cy ad cn ck kv1 o) H locs := mE_call hE hB ht hS
      refine lv_if_ne (tgt := 33) hx hb dX3_swap_24 (by decide) (fun c8 => ?_) (fun c8 => ?_)
      · skip
        have c8 : ¬ 0 = 0 := fun h9 => c8 ((mz_eq (by omega)).mpr h9)
        exfalso; omega
      · skip
        have c8 := (mz_eq (by omega)).mp c8
        refine lv_aload_n hx hb dX3_swap_27 rfl (lv_at hl 0 rfl) ?_
        refine lv_iconst (v := nI 1) hx hb dX3_swap_28 (by decide) ?_
        refine va_calli (va_runV (As := [.int (nI 1)]) (rest := []) ⟨hx, hb, hml, hown, hts⟩ (c_X3_fail l G cy ad cn ck n k kv1 o hn hk _ kf3 kf4 (nI 1)) (cwV 1 hts gX3_swap_X3_fail rfl rfl rfl (by decide +kernel) ⟨Nat.le_of_ble_eq_true rfl, Nat.le_of_ble_eq_true rfl⟩) (mP_V (r := (RX3, TX3, 11)) hN hE (S_4f kf2 kf3 kf4 kf5) rfl) rfl rfl hl.1 rfl (lv_room (Nat.le_of_ble_eq_true rfl)) dX3_swap_29 ⟨Nat.le_of_ble_eq_true rfl, Nat.le_of_ble_eq_true rfl⟩) hE.2.2.2 (fun q _ h => mE_A hE q h) (mE_A hE) (fun r uq tq H locs ht hvm hw hB hz1 hk1 hS => ?_)
        obtain ⟨rfl, kv9, rfl, kq10⟩ := hw
        have hE : mE G (mA ad (Sy cy ad cn ck v o) s.heap.size) s.heap ad (Sy cy ad cn ck kv9 o) H locs := mE_call hE hB ht hS
        have kf11 : kv9 4 0 = nI 1 := kq10.2.1
        have kf12 : kv9 4 1 = nI n := (kq10.2.2.1).trans kf3
        have kf13 : kv9 4 2 = nI k := (kq10.2.2.2).trans kf4
        exact mx_iret hx hb hr hE hlocks ⟨rfl, ⟨kv9, rfl, fun w h4 h10 h11 => ((kq10.1 w h4 h10 h11).trans (show kv1 w = v w by rw [hkv1, va_up_n _ _ h4])), kf11, (kf12.trans hm1.symm), (kf13.trans hm2.symm)⟩⟩ dX3_swap_32

set_option maxHeartbeats 4000000 in
set_option maxRecDepth 100000 in
/-- mend -/
theorem c_X3_mend (l : Launch) (G : va_G) (cy : Nat → ClassId) (ad : Nat → Nat) (cn ck n k : Nat) (v : Nat → Nat → Int32) (o : Nat → Int64) (hn : n ≤ 6) (hk : k ≤ 20) (sz : Nat) (hm1 : v 4 1 = nI n) (hm2 : v 4 2 = nI k) (a b9 : Nat) (h_a : a < n) (h_b9 : b9 < n) {f5 : Nat → Int32} (h5 : v 5 = f5) {f6 : Nat → Int32} (h6 : v 6 = f6) : mMi l yX3_mend wsX3_mend ({ frames := 13, cells := 0, slots := 0, locals := 340 }) G cy ad (Sy cy ad cn ck v o) sz [.ref (ad 4), .int (nI a), .int (nI b9)] 0 0 (fun (r : Int32) u => r = nI (mMeN f5 a b9 (mCm (mS (fun d => f5 (16 * a + d))) (mS (fun d => f5 (16 * b9 + d))) 4 1) 16) ∧ ∃ v' : Nat → Nat → Int32, u = (ad, Sy cy ad cn ck v' o) ∧ mQM v v' (nI 0) (mMe5 f5 a b9 (mCm (mS (fun d => f5 (16 * a + d))) (mS (fun d => f5 (16 * b9 + d))) 4 1) 16) (mMe6 f5 f6 a b9 (mCm (mS (fun d => f5 (16 * a + d))) (mS (fun d => f5 (16 * b9 + d))) 4 1) 16)) := by
  refine Met.ofW (cc := cX3_mend) (maxL := 6) (ret := (some .int)) (by decide) rfl ?_
  intro p e s m args below meth c s₁ B hml hv
  obtain ⟨rfl, hv⟩ := hv
  have hsz := hv.1
  subst hsz
  have hN := hv.2.2
  have hE := mP_E hv
  have hx := B.exec
  have hb := B.bytes
  have hr := B.returns
  have hts := atoms_spec (ws := wsX3_mend) B.pre
  have hown : s.vm.findClass RX3 = some m.cls := findClass_of_methodNamed B.named
  have hlocks := B.notSynchronized
  have hiX3 : ∀ w ∈ wsX30, w ∈ wsX3_mend := by decide +kernel
  have hl := lv_entry ([.ref (ad 4), .int (nI a), .int (nI b9)]) (n := 6) (Nat.le_of_ble_eq_true rfl)
  rw [lg_entry_eq]
  generalize (lg_sl ([.ref (ad 4), .int (nI a), .int (nI b9)]) ++ List.replicate (6 - (lg_sl ([.ref (ad 4), .int (nI a), .int (nI b9)])).length) Slot.unset).toArray = ls at hl ⊢
  have hl : lv_has ls 6 [(0, .ref (ad 4)), (1, .int (nI a)), (2, .int (nI b9))] := hl
  refine lv_aload_n hx hb dX3_mend_0 rfl (lv_at hl 0 rfl) ?_
  refine lv_iconst (v := nI 0) hx hb dX3_mend_1 (by decide) ?_
  refine mx_put (ci := 3) (v := .int (nI 0)) (ty := .int) (C := RX3) (T := TX3) (N := 11) hx hb hts hiX3 tyX3 tyX3_ok nmX3 hown hN hE (S_4f rfl hm1 hm2 rfl) rfl 0 (by decide) (hts (.fieldLink RX3 31 "SealedCupboardsModel" "thrown" "I") (by decide +kernel)) (fun _ h9 => h9) rfl (by decide +kernel) rfl rfl (Nat.le_of_ble_eq_true rfl) dX3_mend_2 (fun H locs hE => ?_)
  obtain ⟨kv1, hkv1⟩ : ∃ y99, y99 = va_up v 4 (upd (v 4) 0 (nI 0)) := ⟨_, rfl⟩
  have hE : mE G (mA ad (Sy cy ad cn ck v o) s.heap.size) s.heap ad (Sy cy ad cn ck kv1 o) H locs := by rw [hkv1]; exact (S_4u (upd_s _ _ _) ((upd_n _ _ (by decide)).trans hm1) ((upd_n _ _ (by decide)).trans hm2) ((upd_n _ _ (by decide)).trans rfl)) ▸ hE
  have kf2 : kv1 4 0 = nI 0 := by rw [hkv1, va_up_s, upd_s]
  have kf3 : kv1 4 1 = nI n := by rw [hkv1, va_up_s, upd_n _ _ (by decide)]; exact hm1
  have kf4 : kv1 4 2 = nI k := by rw [hkv1, va_up_s, upd_n _ _ (by decide)]; exact hm2
  have kf5 : kv1 4 10 = v 4 10 := by rw [hkv1, va_up_s, upd_n _ _ (by decide)]
  have ke6 : kv1 5 = f5 := by rw [hkv1, va_up_n _ _ (by omega)]; exact h5
  have ke7 : kv1 6 = f6 := by rw [hkv1, va_up_n _ _ (by omega)]; exact h6
  refine lv_aload_n hx hb dX3_mend_5 rfl (lv_at hl 0 rfl) ?_
  refine lv_iload_n hx hb dX3_mend_6 rfl (lv_at hl 1 rfl) ?_
  refine va_calli (va_runV (As := [.int (nI a)]) (rest := []) ⟨hx, hb, hml, hown, hts⟩ (c_X3_isCupboard l G cy ad cn ck n k kv1 o hn hk _ kf3 kf4 a h_a) (cwV 1 hts gX3_mend_X3_isCupboard rfl rfl rfl (by decide +kernel) ⟨Nat.le_of_ble_eq_true rfl, Nat.le_of_ble_eq_true rfl⟩) (mP_V (r := (RX3, TX3, 11)) hN hE (S_4f kf2 kf3 kf4 kf5) rfl) rfl rfl hl.1 rfl (lv_room (Nat.le_of_ble_eq_true rfl)) dX3_mend_7 ⟨Nat.le_of_ble_eq_true rfl, Nat.le_of_ble_eq_true rfl⟩) hE.2.2.2 (fun q _ h => mE_A hE q h) (mE_A hE) (fun r uq tq H locs ht hvm hw hB hz1 hk1 hS => ?_)
  obtain ⟨rfl, rfl⟩ := hw
  have hE : mE G (mA ad (Sy cy ad cn ck v o) s.heap.size) s.heap ad (Sy cy ad cn ck kv1 o) H locs := mE_call hE hB ht hS
  refine lv_if_eq (tgt := 21) hx hb dX3_mend_10 (by decide) (fun c8 => ?_) (fun c8 => ?_)
  · skip
    have c8 := (mz_eq (by omega)).mp c8
    exfalso; omega
  · skip
    have c8 : ¬ 1 = 0 := fun h9 => c8 ((mz_eq (by omega)).mpr h9)
    refine lv_aload_n hx hb dX3_mend_13 rfl (lv_at hl 0 rfl) ?_
    refine lv_iload_n hx hb dX3_mend_14 rfl (lv_at hl 2 rfl) ?_
    refine va_calli (va_runV (As := [.int (nI b9)]) (rest := []) ⟨hx, hb, hml, hown, hts⟩ (c_X3_isCupboard l G cy ad cn ck n k kv1 o hn hk _ kf3 kf4 b9 h_b9) (cwV 1 hts gX3_mend_X3_isCupboard rfl rfl rfl (by decide +kernel) ⟨Nat.le_of_ble_eq_true rfl, Nat.le_of_ble_eq_true rfl⟩) (mP_V (r := (RX3, TX3, 11)) hN hE (S_4f kf2 kf3 kf4 kf5) rfl) rfl rfl hl.1 rfl (lv_room (Nat.le_of_ble_eq_true rfl)) dX3_mend_15 ⟨Nat.le_of_ble_eq_true rfl, Nat.le_of_ble_eq_true rfl⟩) hE.2.2.2 (fun q _ h => mE_A hE q h) (mE_A hE) (fun r uq tq H locs ht hvm hw hB hz1 hk1 hS => ?_)
    obtain ⟨rfl, rfl⟩ := hw
    have hE : mE G (mA ad (Sy cy ad cn ck v o) s.heap.size) s.heap ad (Sy cy ad cn ck kv1 o) H locs := mE_call hE hB ht hS
    refine lv_if_ne (tgt := 27) hx hb dX3_mend_18 (by decide) (fun c9 => ?_) (fun c9 => ?_)
    · skip
      have c9 : ¬ 1 = 0 := fun h9 => c9 ((mz_eq (by omega)).mpr h9)
      refine lv_aload_n hx hb dX3_mend_27 rfl (lv_at hl 0 rfl) ?_
      refine lv_iload_n hx hb dX3_mend_28 rfl (lv_at hl 1 rfl) ?_
      refine lv_iload_n hx hb dX3_mend_29 rfl (lv_at hl 2 rfl) ?_
      refine va_calli (va_runV (As := [.int (nI a), .int (nI b9)]) (rest := []) ⟨hx, hb, hml, hown, hts⟩ (c_X3_differing l G cy ad cn ck n k kv1 o hn hk _ kf3 kf4 a b9 h_a h_b9 ke6) (cwV 2 hts gX3_mend_X3_differing rfl rfl rfl (by decide +kernel) ⟨Nat.le_of_ble_eq_true rfl, Nat.le_of_ble_eq_true rfl⟩) (mP_V (r := (RX3, TX3, 11)) hN hE (S_4f kf2 kf3 kf4 kf5) rfl) rfl rfl hl.1 rfl (lv_room (Nat.le_of_ble_eq_true rfl)) dX3_mend_30 ⟨Nat.le_of_ble_eq_true rfl, Nat.le_of_ble_eq_true rfl⟩) hE.2.2.2 (fun q _ h => mE_A hE q h) (mE_A hE) (fun r uq tq H locs ht hvm hw hB hz1 hk1 hS => ?_)
      obtain ⟨rfl, kv10, rfl, kq11⟩ := hw
      have hE : mE G (mA ad (Sy cy ad cn ck v o) s.heap.size) s.heap ad (Sy cy ad cn ck kv10 o) H locs := mE_call hE hB ht hS
      obtain ⟨kq11, kd12⟩ := kq11
      have ke13 : kv10 5 = f5 := (kq11.1 5 (by decide) (by decide) (by decide)).trans ke6
      have ke14 : kv10 6 = f6 := (kq11.1 6 (by decide) (by decide) (by decide)).trans ke7
      have kf15 : kv10 4 0 = nI 0 := (kq11.2.1).trans kf2
      have kf16 : kv10 4 1 = nI n := (kq11.2.2.1).trans kf3
      have kf17 : kv10 4 2 = nI k := (kq11.2.2.2).trans kf4
      refine lv_istore_n (lv' := [(3, .int (nI (mCm (mS (fun d => f5 (16 * a + d))) (mS (fun d => f5 (16 * b9 + d))) 4 1))), (0, .ref (ad 4)), (1, .int (nI a)), (2, .int (nI b9))]) hx hb dX3_mend_33 rfl hl (by decide) rfl (fun ls hl => ?_)
      refine lv_iconst (v := nI 0) hx hb dX3_mend_34 (by decide) ?_
      refine lv_istore (lv' := [(4, .int (nI 0)), (3, .int (nI (mCm (mS (fun d => f5 (16 * a + d))) (mS (fun d => f5 (16 * b9 + d))) 4 1))), (0, .ref (ad 4)), (1, .int (nI a)), (2, .int (nI b9))]) hx hb dX3_mend_35 hl (by decide) rfl (fun ls hl => ?_)
      refine lv_iconst (v := nI 0) hx hb dX3_mend_37 (by decide) ?_
      refine lv_istore (lv' := [(5, .int (nI 0)), (4, .int (nI 0)), (3, .int (nI (mCm (mS (fun d => f5 (16 * a + d))) (mS (fun d => f5 (16 * b9 + d))) 4 1))), (0, .ref (ad 4)), (1, .int (nI a)), (2, .int (nI b9))]) hx hb dX3_mend_38 hl (by decide) rfl (fun ls hl => ?_)
      refine mx_loop (β := Nat × (Nat → Nat → Int32)) (fun n9 (bb9 : Nat × (Nat → Nat → Int32)) H locs ls => (fun (d : Nat) (v9 : Nat → Nat → Int32) => n9 = 16 - d ∧ (d ≤ 16 ∧ mQM v v9 (nI 0) (mMe5 f5 a b9 (mCm (mS (fun d => f5 (16 * a + d))) (mS (fun d => f5 (16 * b9 + d))) 4 1) d) (mMe6 f5 f6 a b9 (mCm (mS (fun d => f5 (16 * a + d))) (mS (fun d => f5 (16 * b9 + d))) 4 1) d)) ∧ mE G (mA ad (Sy cy ad cn ck v o) s.heap.size) s.heap ad (Sy cy ad cn ck v9 o) H locs ∧ lv_has ls 6 [(5, .int (nI d)), (4, .int (nI (mMeN f5 a b9 (mCm (mS (fun d => f5 (16 * a + d))) (mS (fun d => f5 (16 * b9 + d))) 4 1) d))), (3, .int (nI (mCm (mS (fun d => f5 (16 * a + d))) (mS (fun d => f5 (16 * b9 + d))) 4 1))), (0, .ref (ad 4)), (1, .int (nI a)), (2, .int (nI b9))]) (bb9.1) (bb9.2)) ?_ (16 - 0) (0, kv10) _ _ _ ⟨rfl, ⟨by omega, ⟨fun w h4 h5w h6w h10 h11 => ((kq11.1 w h4 h10 h11).trans (show kv1 w = v w by rw [hkv1, va_up_n _ _ h4])), kf15, (kf16.trans hm1.symm), (kf17.trans hm2.symm), ke13, ke14⟩⟩, hE, lv_sub hl [0, 1, 2, 3, 4, 5] rfl⟩
      intro n9 bb9 H locs ls hI ih18
      obtain ⟨d, v9⟩ := bb9
      obtain ⟨hn19, ⟨hle, hq9⟩, hE, hl⟩ := hI
      have hbd := mMeN_le f5 a b9 (mCm (mS (fun d => f5 (16 * a + d))) (mS (fun d => f5 (16 * b9 + d))) 4 1) d
      have hE : mE G (mA ad (Sy cy ad cn ck v o) s.heap.size) s.heap ad (Sy cy ad cn ck v9 o) H locs := hE
      have hl : lv_has ls 6 [(5, .int (nI d)), (4, .int (nI (mMeN f5 a b9 (mCm (mS (fun d => f5 (16 * a + d))) (mS (fun d => f5 (16 * b9 + d))) 4 1) d))), (3, .int (nI (mCm (mS (fun d => f5 (16 * a + d))) (mS (fun d => f5 (16 * b9 + d))) 4 1))), (0, .ref (ad 4)), (1, .int (nI a)), (2, .int (nI b9))] := hl
      refine lv_iload hx hb dX3_mend_40 (lv_at hl 0 rfl) ?_
      refine lv_bipush (v := nI 16) hx hb dX3_mend_42 (by decide) ?_
      refine mv_ge (tgt := 90) hx hb (by omega) (by omega) dX3_mend_44 (by decide) (fun c20 => ?_) (fun c20 => ?_)
      · skip
        refine lv_iload hx hb dX3_mend_90 (lv_at hl 1 rfl) ?_
        exact mx_iret hx hb hr hE hlocks ⟨by rw [show d = 16 by omega], ⟨v9, rfl, fun w h4 h5w h6w h10 h11 => (hq9.1 w h4 h5w h6w h10 h11), hq9.2.1, ((hq9.2.2.1.trans hm1).trans hm1.symm), ((hq9.2.2.2.1.trans hm2).trans hm2.symm), (hq9.2.2.2.2.1.trans (by rw [show d = 16 by omega])), (hq9.2.2.2.2.2.trans (by rw [show d = 16 by omega]))⟩⟩ dX3_mend_92
      · skip
        refine lv_iload hx hb dX3_mend_47 (lv_at hl 1 rfl) ?_
        refine lv_iload_n hx hb dX3_mend_49 rfl (lv_at hl 2 rfl) ?_
        refine lv_iload hx hb dX3_mend_50 (lv_at hl 0 rfl) ?_
        refine mv_ishr (z := nI ((mCm (mS (fun d => f5 (16 * a + d))) (mS (fun d => f5 (16 * b9 + d))) 4 1) / 2 ^ d)) hx hb (pk_shrN (Nat.lt_trans (mCm_lt (mS (fun d => f5 (16 * a + d))) (mS (fun d => f5 (16 * b9 + d))) 4 1 (by decide) (by decide) (by decide)) (by decide)) _ _ (mu_l d (by omega))) dX3_mend_52 ?_
        refine lv_iconst (v := nI 1) hx hb dX3_mend_53 (by decide) ?_
        refine mv_iand (z := nI ((mCm (mS (fun d => f5 (16 * a + d))) (mS (fun d => f5 (16 * b9 + d))) 4 1) / 2 ^ d % 2)) hx hb (pk_andN (Nat.lt_of_le_of_lt (Nat.div_le_self _ _) (Nat.lt_trans (mCm_lt (mS (fun d => f5 (16 * a + d))) (mS (fun d => f5 (16 * b9 + d))) 4 1 (by decide) (by decide) (by decide)) (by decide))) 1 (by decide)) dX3_mend_54 ?_
        refine lv_iconst (v := nI 1) hx hb dX3_mend_55 (by decide) ?_
        refine mv_ne (tgt := 80) hx hb (by omega) (by omega) dX3_mend_56 (by decide) (fun c21 => ?_) (fun c21 => ?_)
        · skip
          refine lv_iconst (v := nI 0) hx hb dX3_mend_80 (by decide) ?_
          refine mv_iadd (z := nI ((mMeN f5 a b9 (mCm (mS (fun d => f5 (16 * a + d))) (mS (fun d => f5 (16 * b9 + d))) 4 1) d) + 0)) hx hb (nI_add _ _) dX3_mend_81 ?_
          refine lv_istore (lv' := [(4, .int (nI ((mMeN f5 a b9 (mCm (mS (fun d => f5 (16 * a + d))) (mS (fun d => f5 (16 * b9 + d))) 4 1) d) + 0))), (5, .int (nI d)), (3, .int (nI (mCm (mS (fun d => f5 (16 * a + d))) (mS (fun d => f5 (16 * b9 + d))) 4 1))), (0, .ref (ad 4)), (1, .int (nI a)), (2, .int (nI b9))]) hx hb dX3_mend_82 hl (by decide) rfl (fun ls hl => ?_)
          have e9 : mMeN f5 a b9 (mCm (mS (fun d => f5 (16 * a + d))) (mS (fun d => f5 (16 * b9 + d))) 4 1) d + 0 = mMeN f5 a b9 (mCm (mS (fun d => f5 (16 * a + d))) (mS (fun d => f5 (16 * b9 + d))) 4 1) (d + 1) := by simp only [mMeN]; rw [if_neg (fun h9 => by first | exact c21 h9.1 | exact c21 h9.2)]
          rw [e9] at hl
          refine lv_iinc (v := nI (d + 1)) (lv' := [(5, .int (nI (d + 1))), (4, .int (nI (mMeN f5 a b9 (mCm (mS (fun d => f5 (16 * a + d))) (mS (fun d => f5 (16 * b9 + d))) 4 1) (d + 1)))), (3, .int (nI (mCm (mS (fun d => f5 (16 * a + d))) (mS (fun d => f5 (16 * b9 + d))) 4 1))), (0, .ref (ad 4)), (1, .int (nI a)), (2, .int (nI b9))]) hx hb dX3_mend_84 hl (k := 1) rfl (nI_add _ _) (by decide) rfl (fun ls hl => ?_)
          refine lv_goto (tgt := 40) hx hb dX3_mend_87 (by decide) ?_
          exact ih18 (16 - (d + 1)) (d + 1, v9) _ _ _ (by rw [hn19]; omega) ⟨rfl, ⟨by omega, ⟨fun w h4 h5w h6w h10 h11 => (hq9.1 w h4 h5w h6w h10 h11), hq9.2.1, ((hq9.2.2.1.trans hm1).trans hm1.symm), ((hq9.2.2.2.1.trans hm2).trans hm2.symm), (hq9.2.2.2.2.1.trans (by simp only [mMe5, if_neg c21])), (hq9.2.2.2.2.2.trans (by simp only [mMe6, if_neg c21]))⟩⟩, hE, lv_sub hl [0, 1, 2, 3, 4, 5] rfl⟩
        · skip
          refine lv_aload_n hx hb dX3_mend_59 rfl (lv_at hl 3 rfl) ?_
          refine lv_iload_n hx hb dX3_mend_60 rfl (lv_at hl 5 rfl) ?_
          refine lv_iload hx hb dX3_mend_61 (lv_at hl 0 rfl) ?_
          refine lv_aload_n hx hb dX3_mend_63 rfl (lv_at hl 3 rfl) ?_
          refine lv_iload_n hx hb dX3_mend_64 rfl (lv_at hl 4 rfl) ?_
          refine lv_iload hx hb dX3_mend_65 (lv_at hl 0 rfl) ?_
          refine va_calli (va_runV (As := [.int (nI a), .int (nI d)]) (rest := [.int (nI d), .int (nI b9), .ref (ad 4), .int (nI (mMeN f5 a b9 (mCm (mS (fun d => f5 (16 * a + d))) (mS (fun d => f5 (16 * b9 + d))) 4 1) d))]) ⟨hx, hb, hml, hown, hts⟩ (c_X3_th l G cy ad cn ck n k v9 o hn hk _ (hq9.2.2.1.trans hm1) (hq9.2.2.2.1.trans hm2) a d h_a (by omega) hq9.2.2.2.2.1) (cwV 2 hts gX3_mend_X3_th rfl rfl rfl (by decide +kernel) ⟨Nat.le_of_ble_eq_true rfl, Nat.le_of_ble_eq_true rfl⟩) (mP_V (r := (RX3, TX3, 11)) hN hE (S_4f hq9.2.1 (hq9.2.2.1.trans hm1) (hq9.2.2.2.1.trans hm2) rfl) rfl) rfl rfl hl.1 rfl (lv_room (Nat.le_of_ble_eq_true rfl)) dX3_mend_67 ⟨Nat.le_of_ble_eq_true rfl, Nat.le_of_ble_eq_true rfl⟩) hE.2.2.2 (fun q _ h => mE_A hE q h) (mE_A hE) (fun r uq tq H locs ht hvm hw hB hz1 hk1 hS => ?_)
          obtain ⟨rfl, rfl⟩ := hw
          have hE : mE G (mA ad (Sy cy ad cn ck v o) s.heap.size) s.heap ad (Sy cy ad cn ck v9 o) H locs := mE_call hE hB ht hS
          refine va_calli (va_runV (As := [.int (nI b9), .int (nI d), .int ((mMe5 f5 a b9 (mCm (mS (fun d => f5 (16 * a + d))) (mS (fun d => f5 (16 * b9 + d))) 4 1) d) (16 * a + d))]) (rest := [.int (nI (mMeN f5 a b9 (mCm (mS (fun d => f5 (16 * a + d))) (mS (fun d => f5 (16 * b9 + d))) 4 1) d))]) ⟨hx, hb, hml, hown, hts⟩ (c_X3_lay l G cy ad cn ck n k v9 o hn hk _ (hq9.2.2.1.trans hm1) (hq9.2.2.2.1.trans hm2) b9 d ((mMe5 f5 a b9 (mCm (mS (fun d => f5 (16 * a + d))) (mS (fun d => f5 (16 * b9 + d))) 4 1) d) (16 * a + d)) h_b9 (by omega) hq9.2.2.2.2.1 hq9.2.2.2.2.2) (cwV 3 hts gX3_mend_X3_lay rfl rfl rfl (by decide +kernel) ⟨Nat.le_of_ble_eq_true rfl, Nat.le_of_ble_eq_true rfl⟩) (mP_V (r := (RX3, TX3, 11)) hN hE (S_4f hq9.2.1 (hq9.2.2.1.trans hm1) (hq9.2.2.2.1.trans hm2) rfl) rfl) rfl rfl hl.1 rfl (lv_room (Nat.le_of_ble_eq_true rfl)) dX3_mend_70 ⟨Nat.le_of_ble_eq_true rfl, Nat.le_of_ble_eq_true rfl⟩) hE.2.2.2 (fun q _ h => mE_A hE q h) (mE_A hE) (fun r uq tq H locs ht hvm hw hB hz1 hk1 hS => ?_)
          obtain ⟨rfl, kv22, rfl, kq23⟩ := hw
          have hE : mE G (mA ad (Sy cy ad cn ck v o) s.heap.size) s.heap ad (Sy cy ad cn ck kv22 o) H locs := mE_call hE hB ht hS
          have ke24 : kv22 5 = (upd (mMe5 f5 a b9 (mCm (mS (fun d => f5 (16 * a + d))) (mS (fun d => f5 (16 * b9 + d))) 4 1) d) (16 * b9 + d) ((mMe5 f5 a b9 (mCm (mS (fun d => f5 (16 * a + d))) (mS (fun d => f5 (16 * b9 + d))) 4 1) d) (16 * a + d))) := kq23.2.2.2.2.1
          have ke25 : kv22 6 = (mL6 (mMe5 f5 a b9 (mCm (mS (fun d => f5 (16 * a + d))) (mS (fun d => f5 (16 * b9 + d))) 4 1) d) (mMe6 f5 f6 a b9 (mCm (mS (fun d => f5 (16 * a + d))) (mS (fun d => f5 (16 * b9 + d))) 4 1) d) b9 d ((mMe5 f5 a b9 (mCm (mS (fun d => f5 (16 * a + d))) (mS (fun d => f5 (16 * b9 + d))) 4 1) d) (16 * a + d))) := kq23.2.2.2.2.2
          have kf26 : kv22 4 0 = nI 0 := (kq23.2.1).trans hq9.2.1
          have kf27 : kv22 4 1 = nI n := (kq23.2.2.1).trans (hq9.2.2.1.trans hm1)
          have kf28 : kv22 4 2 = nI k := (kq23.2.2.2.1).trans (hq9.2.2.2.1.trans hm2)
          refine lv_if_eq (tgt := 80) hx hb dX3_mend_73 (by decide) (fun c29 => ?_) (fun c29 => ?_)
          · skip
            have c29 := mb_0.mp c29
            refine lv_iconst (v := nI 0) hx hb dX3_mend_80 (by decide) ?_
            refine mv_iadd (z := nI ((mMeN f5 a b9 (mCm (mS (fun d => f5 (16 * a + d))) (mS (fun d => f5 (16 * b9 + d))) 4 1) d) + 0)) hx hb (nI_add _ _) dX3_mend_81 ?_
            refine lv_istore (lv' := [(4, .int (nI ((mMeN f5 a b9 (mCm (mS (fun d => f5 (16 * a + d))) (mS (fun d => f5 (16 * b9 + d))) 4 1) d) + 0))), (5, .int (nI d)), (3, .int (nI (mCm (mS (fun d => f5 (16 * a + d))) (mS (fun d => f5 (16 * b9 + d))) 4 1))), (0, .ref (ad 4)), (1, .int (nI a)), (2, .int (nI b9))]) hx hb dX3_mend_82 hl (by decide) rfl (fun ls hl => ?_)
            have e9 : mMeN f5 a b9 (mCm (mS (fun d => f5 (16 * a + d))) (mS (fun d => f5 (16 * b9 + d))) 4 1) d + 0 = mMeN f5 a b9 (mCm (mS (fun d => f5 (16 * a + d))) (mS (fun d => f5 (16 * b9 + d))) 4 1) (d + 1) := by simp only [mMeN]; rw [if_neg (fun h9 => by first | exact c29 h9.1 | exact c29 h9.2)]
            rw [e9] at hl
            refine lv_iinc (v := nI (d + 1)) (lv' := [(5, .int (nI (d + 1))), (4, .int (nI (mMeN f5 a b9 (mCm (mS (fun d => f5 (16 * a + d))) (mS (fun d => f5 (16 * b9 + d))) 4 1) (d + 1)))), (3, .int (nI (mCm (mS (fun d => f5 (16 * a + d))) (mS (fun d => f5 (16 * b9 + d))) 4 1))), (0, .ref (ad 4)), (1, .int (nI a)), (2, .int (nI b9))]) hx hb dX3_mend_84 hl (k := 1) rfl (nI_add _ _) (by decide) rfl (fun ls hl => ?_)
            refine lv_goto (tgt := 40) hx hb dX3_mend_87 (by decide) ?_
            exact ih18 (16 - (d + 1)) (d + 1, kv22) _ _ _ (by rw [hn19]; omega) ⟨rfl, ⟨by omega, ⟨fun w h4 h5w h6w h10 h11 => ((kq23.1 w h4 h5w h6w h10 h11).trans (hq9.1 w h4 h5w h6w h10 h11)), kf26, (kf27.trans hm1.symm), (kf28.trans hm2.symm), (ke24.trans (by simp only [mMe5, if_pos c21])), (ke25.trans (by simp only [mMe6, if_pos c21]))⟩⟩, hE, lv_sub hl [0, 1, 2, 3, 4, 5] rfl⟩
          · skip
            have c29 := Classical.not_not.mp (fun h9 => c29 (mb_0.mpr h9))
            refine lv_iconst (v := nI 1) hx hb dX3_mend_76 (by decide) ?_
            refine lv_goto (tgt := 81) hx hb dX3_mend_77 (by decide) ?_
            refine mv_iadd (z := nI ((mMeN f5 a b9 (mCm (mS (fun d => f5 (16 * a + d))) (mS (fun d => f5 (16 * b9 + d))) 4 1) d) + 1)) hx hb (nI_add _ _) dX3_mend_81 ?_
            refine lv_istore (lv' := [(4, .int (nI ((mMeN f5 a b9 (mCm (mS (fun d => f5 (16 * a + d))) (mS (fun d => f5 (16 * b9 + d))) 4 1) d) + 1))), (5, .int (nI d)), (3, .int (nI (mCm (mS (fun d => f5 (16 * a + d))) (mS (fun d => f5 (16 * b9 + d))) 4 1))), (0, .ref (ad 4)), (1, .int (nI a)), (2, .int (nI b9))]) hx hb dX3_mend_82 hl (by decide) rfl (fun ls hl => ?_)
            have e9 : mMeN f5 a b9 (mCm (mS (fun d => f5 (16 * a + d))) (mS (fun d => f5 (16 * b9 + d))) 4 1) d + 1 = mMeN f5 a b9 (mCm (mS (fun d => f5 (16 * a + d))) (mS (fun d => f5 (16 * b9 + d))) 4 1) (d + 1) := by simp only [mMeN]; rw [if_pos ⟨c21, c29⟩]
            rw [e9] at hl
            refine lv_iinc (v := nI (d + 1)) (lv' := [(5, .int (nI (d + 1))), (4, .int (nI (mMeN f5 a b9 (mCm (mS (fun d => f5 (16 * a + d))) (mS (fun d => f5 (16 * b9 + d))) 4 1) (d + 1)))), (3, .int (nI (mCm (mS (fun d => f5 (16 * a + d))) (mS (fun d => f5 (16 * b9 + d))) 4 1))), (0, .ref (ad 4)), (1, .int (nI a)), (2, .int (nI b9))]) hx hb dX3_mend_84 hl (k := 1) rfl (nI_add _ _) (by decide) rfl (fun ls hl => ?_)
            refine lv_goto (tgt := 40) hx hb dX3_mend_87 (by decide) ?_
            exact ih18 (16 - (d + 1)) (d + 1, kv22) _ _ _ (by rw [hn19]; omega) ⟨rfl, ⟨by omega, ⟨fun w h4 h5w h6w h10 h11 => ((kq23.1 w h4 h5w h6w h10 h11).trans (hq9.1 w h4 h5w h6w h10 h11)), kf26, (kf27.trans hm1.symm), (kf28.trans hm2.symm), (ke24.trans (by simp only [mMe5, if_pos c21])), (ke25.trans (by simp only [mMe6, if_pos c21]))⟩⟩, hE, lv_sub hl [0, 1, 2, 3, 4, 5] rfl⟩
    · skip
      have c9 := (mz_eq (by omega)).mp c9
      exfalso; omega

set_option maxHeartbeats 4000000 in
set_option maxRecDepth 100000 in
/-- mend -/
theorem x_X3_mend1 (l : Launch) (G : va_G) (cy : Nat → ClassId) (ad : Nat → Nat) (cn ck n k : Nat) (v : Nat → Nat → Int32) (o : Nat → Int64) (hn : n ≤ 6) (hk : k ≤ 20) (sz : Nat) (hm1 : v 4 1 = nI n) (hm2 : v 4 2 = nI k) (x : Int32) (hbad : x < 0 ∨ nI n ≤ x) (y : Int32) : mMi l yX3_mend wsX3_mend ({ frames := 13, cells := 0, slots := 0, locals := 340 }) G cy ad (Sy cy ad cn ck v o) sz [.ref (ad 4), .int x, .int y] 0 0 (fun (r : Int32) u => r = nI 0 ∧ ∃ v' : Nat → Nat → Int32, u = (ad, Sy cy ad cn ck v' o) ∧ mQT v v' (nI 1)) := by
  refine Met.ofW (cc := cX3_mend) (maxL := 6) (ret := (some .int)) (by decide) rfl ?_
  intro p e s m args below meth c s₁ B hml hv
  obtain ⟨rfl, hv⟩ := hv
  have hsz := hv.1
  subst hsz
  have hN := hv.2.2
  have hE := mP_E hv
  have hx := B.exec
  have hb := B.bytes
  have hr := B.returns
  have hts := atoms_spec (ws := wsX3_mend) B.pre
  have hown : s.vm.findClass RX3 = some m.cls := findClass_of_methodNamed B.named
  have hlocks := B.notSynchronized
  have hiX3 : ∀ w ∈ wsX30, w ∈ wsX3_mend := by decide +kernel
  have hl := lv_entry ([.ref (ad 4), .int x, .int y]) (n := 6) (Nat.le_of_ble_eq_true rfl)
  rw [lg_entry_eq]
  generalize (lg_sl ([.ref (ad 4), .int x, .int y]) ++ List.replicate (6 - (lg_sl ([.ref (ad 4), .int x, .int y])).length) Slot.unset).toArray = ls at hl ⊢
  have hl : lv_has ls 6 [(0, .ref (ad 4)), (1, .int x), (2, .int y)] := hl
  refine lv_aload_n hx hb dX3_mend_0 rfl (lv_at hl 0 rfl) ?_
  refine lv_iconst (v := nI 0) hx hb dX3_mend_1 (by decide) ?_
  refine mx_put (ci := 3) (v := .int (nI 0)) (ty := .int) (C := RX3) (T := TX3) (N := 11) hx hb hts hiX3 tyX3 tyX3_ok nmX3 hown hN hE (S_4f rfl hm1 hm2 rfl) rfl 0 (by decide) (hts (.fieldLink RX3 31 "SealedCupboardsModel" "thrown" "I") (by decide +kernel)) (fun _ h9 => h9) rfl (by decide +kernel) rfl rfl (Nat.le_of_ble_eq_true rfl) dX3_mend_2 (fun H locs hE => ?_)
  obtain ⟨kv1, hkv1⟩ : ∃ y99, y99 = va_up v 4 (upd (v 4) 0 (nI 0)) := ⟨_, rfl⟩
  have hE : mE G (mA ad (Sy cy ad cn ck v o) s.heap.size) s.heap ad (Sy cy ad cn ck kv1 o) H locs := by rw [hkv1]; exact (S_4u (upd_s _ _ _) ((upd_n _ _ (by decide)).trans hm1) ((upd_n _ _ (by decide)).trans hm2) ((upd_n _ _ (by decide)).trans rfl)) ▸ hE
  have kf2 : kv1 4 0 = nI 0 := by rw [hkv1, va_up_s, upd_s]
  have kf3 : kv1 4 1 = nI n := by rw [hkv1, va_up_s, upd_n _ _ (by decide)]; exact hm1
  have kf4 : kv1 4 2 = nI k := by rw [hkv1, va_up_s, upd_n _ _ (by decide)]; exact hm2
  have kf5 : kv1 4 10 = v 4 10 := by rw [hkv1, va_up_s, upd_n _ _ (by decide)]
  refine lv_aload_n hx hb dX3_mend_5 rfl (lv_at hl 0 rfl) ?_
  refine lv_iload_n hx hb dX3_mend_6 rfl (lv_at hl 1 rfl) ?_
  refine va_calli (va_runV (As := [.int x]) (rest := []) ⟨hx, hb, hml, hown, hts⟩ (x_X3_isCupboard l G cy ad cn ck n k kv1 o hn hk _ kf3 kf4 x hbad) (cwV 1 hts gX3_mend_X3_isCupboard rfl rfl rfl (by decide +kernel) ⟨Nat.le_of_ble_eq_true rfl, Nat.le_of_ble_eq_true rfl⟩) (mP_V (r := (RX3, TX3, 11)) hN hE (S_4f kf2 kf3 kf4 kf5) rfl) rfl rfl hl.1 rfl (lv_room (Nat.le_of_ble_eq_true rfl)) dX3_mend_7 ⟨Nat.le_of_ble_eq_true rfl, Nat.le_of_ble_eq_true rfl⟩) hE.2.2.2 (fun q _ h => mE_A hE q h) (mE_A hE) (fun r uq tq H locs ht hvm hw hB hz1 hk1 hS => ?_)
  obtain ⟨rfl, rfl⟩ := hw
  have hE : mE G (mA ad (Sy cy ad cn ck v o) s.heap.size) s.heap ad (Sy cy ad cn ck kv1 o) H locs := mE_call hE hB ht hS
  refine lv_if_eq (tgt := 21) hx hb dX3_mend_10 (by decide) (fun c6 => ?_) (fun c6 => ?_)
  · skip
    have c6 := (mz_eq (by omega)).mp c6
    refine lv_aload_n hx hb dX3_mend_21 rfl (lv_at hl 0 rfl) ?_
    refine lv_iconst (v := nI 1) hx hb dX3_mend_22 (by decide) ?_
    refine va_calli (va_runV (As := [.int (nI 1)]) (rest := []) ⟨hx, hb, hml, hown, hts⟩ (c_X3_fail l G cy ad cn ck n k kv1 o hn hk _ kf3 kf4 (nI 1)) (cwV 1 hts gX3_mend_X3_fail rfl rfl rfl (by decide +kernel) ⟨Nat.le_of_ble_eq_true rfl, Nat.le_of_ble_eq_true rfl⟩) (mP_V (r := (RX3, TX3, 11)) hN hE (S_4f kf2 kf3 kf4 kf5) rfl) rfl rfl hl.1 rfl (lv_room (Nat.le_of_ble_eq_true rfl)) dX3_mend_23 ⟨Nat.le_of_ble_eq_true rfl, Nat.le_of_ble_eq_true rfl⟩) hE.2.2.2 (fun q _ h => mE_A hE q h) (mE_A hE) (fun r uq tq H locs ht hvm hw hB hz1 hk1 hS => ?_)
    obtain ⟨rfl, kv7, rfl, kq8⟩ := hw
    have hE : mE G (mA ad (Sy cy ad cn ck v o) s.heap.size) s.heap ad (Sy cy ad cn ck kv7 o) H locs := mE_call hE hB ht hS
    have kf9 : kv7 4 0 = nI 1 := kq8.2.1
    have kf10 : kv7 4 1 = nI n := (kq8.2.2.1).trans kf3
    have kf11 : kv7 4 2 = nI k := (kq8.2.2.2).trans kf4
    exact mx_iret hx hb hr hE hlocks ⟨rfl, ⟨kv7, rfl, fun w h4 h10 h11 => ((kq8.1 w h4 h10 h11).trans (show kv1 w = v w by rw [hkv1, va_up_n _ _ h4])), kf9, (kf10.trans hm1.symm), (kf11.trans hm2.symm)⟩⟩ dX3_mend_26
  · skip
    have c6 : ¬ 0 = 0 := fun h9 => c6 ((mz_eq (by omega)).mpr h9)
    exfalso; omega

set_option maxHeartbeats 4000000 in
set_option maxRecDepth 100000 in
/-- mend -/
theorem x_X3_mend2 (l : Launch) (G : va_G) (cy : Nat → ClassId) (ad : Nat → Nat) (cn ck n k : Nat) (v : Nat → Nat → Int32) (o : Nat → Int64) (hn : n ≤ 6) (hk : k ≤ 20) (sz : Nat) (hm1 : v 4 1 = nI n) (hm2 : v 4 2 = nI k) (i : Nat) (h_i : i < n) (x : Int32) (hbad : x < 0 ∨ nI n ≤ x) : mMi l yX3_mend wsX3_mend ({ frames := 13, cells := 0, slots := 0, locals := 340 }) G cy ad (Sy cy ad cn ck v o) sz [.ref (ad 4), .int (nI i), .int x] 0 0 (fun (r : Int32) u => r = nI 0 ∧ ∃ v' : Nat → Nat → Int32, u = (ad, Sy cy ad cn ck v' o) ∧ mQT v v' (nI 1)) := by
  refine Met.ofW (cc := cX3_mend) (maxL := 6) (ret := (some .int)) (by decide) rfl ?_
  intro p e s m args below meth c s₁ B hml hv
  obtain ⟨rfl, hv⟩ := hv
  have hsz := hv.1
  subst hsz
  have hN := hv.2.2
  have hE := mP_E hv
  have hx := B.exec
  have hb := B.bytes
  have hr := B.returns
  have hts := atoms_spec (ws := wsX3_mend) B.pre
  have hown : s.vm.findClass RX3 = some m.cls := findClass_of_methodNamed B.named
  have hlocks := B.notSynchronized
  have hiX3 : ∀ w ∈ wsX30, w ∈ wsX3_mend := by decide +kernel
  have hl := lv_entry ([.ref (ad 4), .int (nI i), .int x]) (n := 6) (Nat.le_of_ble_eq_true rfl)
  rw [lg_entry_eq]
  generalize (lg_sl ([.ref (ad 4), .int (nI i), .int x]) ++ List.replicate (6 - (lg_sl ([.ref (ad 4), .int (nI i), .int x])).length) Slot.unset).toArray = ls at hl ⊢
  have hl : lv_has ls 6 [(0, .ref (ad 4)), (1, .int (nI i)), (2, .int x)] := hl
  refine lv_aload_n hx hb dX3_mend_0 rfl (lv_at hl 0 rfl) ?_
  refine lv_iconst (v := nI 0) hx hb dX3_mend_1 (by decide) ?_
  refine mx_put (ci := 3) (v := .int (nI 0)) (ty := .int) (C := RX3) (T := TX3) (N := 11) hx hb hts hiX3 tyX3 tyX3_ok nmX3 hown hN hE (S_4f rfl hm1 hm2 rfl) rfl 0 (by decide) (hts (.fieldLink RX3 31 "SealedCupboardsModel" "thrown" "I") (by decide +kernel)) (fun _ h9 => h9) rfl (by decide +kernel) rfl rfl (Nat.le_of_ble_eq_true rfl) dX3_mend_2 (fun H locs hE => ?_)
  obtain ⟨kv1, hkv1⟩ : ∃ y99, y99 = va_up v 4 (upd (v 4) 0 (nI 0)) := ⟨_, rfl⟩
  have hE : mE G (mA ad (Sy cy ad cn ck v o) s.heap.size) s.heap ad (Sy cy ad cn ck kv1 o) H locs := by rw [hkv1]; exact (S_4u (upd_s _ _ _) ((upd_n _ _ (by decide)).trans hm1) ((upd_n _ _ (by decide)).trans hm2) ((upd_n _ _ (by decide)).trans rfl)) ▸ hE
  have kf2 : kv1 4 0 = nI 0 := by rw [hkv1, va_up_s, upd_s]
  have kf3 : kv1 4 1 = nI n := by rw [hkv1, va_up_s, upd_n _ _ (by decide)]; exact hm1
  have kf4 : kv1 4 2 = nI k := by rw [hkv1, va_up_s, upd_n _ _ (by decide)]; exact hm2
  have kf5 : kv1 4 10 = v 4 10 := by rw [hkv1, va_up_s, upd_n _ _ (by decide)]
  refine lv_aload_n hx hb dX3_mend_5 rfl (lv_at hl 0 rfl) ?_
  refine lv_iload_n hx hb dX3_mend_6 rfl (lv_at hl 1 rfl) ?_
  refine va_calli (va_runV (As := [.int (nI i)]) (rest := []) ⟨hx, hb, hml, hown, hts⟩ (c_X3_isCupboard l G cy ad cn ck n k kv1 o hn hk _ kf3 kf4 i h_i) (cwV 1 hts gX3_mend_X3_isCupboard rfl rfl rfl (by decide +kernel) ⟨Nat.le_of_ble_eq_true rfl, Nat.le_of_ble_eq_true rfl⟩) (mP_V (r := (RX3, TX3, 11)) hN hE (S_4f kf2 kf3 kf4 kf5) rfl) rfl rfl hl.1 rfl (lv_room (Nat.le_of_ble_eq_true rfl)) dX3_mend_7 ⟨Nat.le_of_ble_eq_true rfl, Nat.le_of_ble_eq_true rfl⟩) hE.2.2.2 (fun q _ h => mE_A hE q h) (mE_A hE) (fun r uq tq H locs ht hvm hw hB hz1 hk1 hS => ?_)
  obtain ⟨rfl, rfl⟩ := hw
  have hE : mE G (mA ad (Sy cy ad cn ck v o) s.heap.size) s.heap ad (Sy cy ad cn ck kv1 o) H locs := mE_call hE hB ht hS
  refine lv_if_eq (tgt := 21) hx hb dX3_mend_10 (by decide) (fun c6 => ?_) (fun c6 => ?_)
  · skip
    have c6 := (mz_eq (by omega)).mp c6
    exfalso; omega
  · skip
    have c6 : ¬ 1 = 0 := fun h9 => c6 ((mz_eq (by omega)).mpr h9)
    refine lv_aload_n hx hb dX3_mend_13 rfl (lv_at hl 0 rfl) ?_
    refine lv_iload_n hx hb dX3_mend_14 rfl (lv_at hl 2 rfl) ?_
    refine va_calli (va_runV (As := [.int x]) (rest := []) ⟨hx, hb, hml, hown, hts⟩ (x_X3_isCupboard l G cy ad cn ck n k kv1 o hn hk _ kf3 kf4 x hbad) (cwV 1 hts gX3_mend_X3_isCupboard rfl rfl rfl (by decide +kernel) ⟨Nat.le_of_ble_eq_true rfl, Nat.le_of_ble_eq_true rfl⟩) (mP_V (r := (RX3, TX3, 11)) hN hE (S_4f kf2 kf3 kf4 kf5) rfl) rfl rfl hl.1 rfl (lv_room (Nat.le_of_ble_eq_true rfl)) dX3_mend_15 ⟨Nat.le_of_ble_eq_true rfl, Nat.le_of_ble_eq_true rfl⟩) hE.2.2.2 (fun q _ h => mE_A hE q h) (mE_A hE) (fun r uq tq H locs ht hvm hw hB hz1 hk1 hS => ?_)
    obtain ⟨rfl, rfl⟩ := hw
    have hE : mE G (mA ad (Sy cy ad cn ck v o) s.heap.size) s.heap ad (Sy cy ad cn ck kv1 o) H locs := mE_call hE hB ht hS
    refine lv_if_ne (tgt := 27) hx hb dX3_mend_18 (by decide) (fun c7 => ?_) (fun c7 => ?_)
    · skip
      have c7 : ¬ 0 = 0 := fun h9 => c7 ((mz_eq (by omega)).mpr h9)
      exfalso; omega
    · skip
      have c7 := (mz_eq (by omega)).mp c7
      refine lv_aload_n hx hb dX3_mend_21 rfl (lv_at hl 0 rfl) ?_
      refine lv_iconst (v := nI 1) hx hb dX3_mend_22 (by decide) ?_
      refine va_calli (va_runV (As := [.int (nI 1)]) (rest := []) ⟨hx, hb, hml, hown, hts⟩ (c_X3_fail l G cy ad cn ck n k kv1 o hn hk _ kf3 kf4 (nI 1)) (cwV 1 hts gX3_mend_X3_fail rfl rfl rfl (by decide +kernel) ⟨Nat.le_of_ble_eq_true rfl, Nat.le_of_ble_eq_true rfl⟩) (mP_V (r := (RX3, TX3, 11)) hN hE (S_4f kf2 kf3 kf4 kf5) rfl) rfl rfl hl.1 rfl (lv_room (Nat.le_of_ble_eq_true rfl)) dX3_mend_23 ⟨Nat.le_of_ble_eq_true rfl, Nat.le_of_ble_eq_true rfl⟩) hE.2.2.2 (fun q _ h => mE_A hE q h) (mE_A hE) (fun r uq tq H locs ht hvm hw hB hz1 hk1 hS => ?_)
      obtain ⟨rfl, kv8, rfl, kq9⟩ := hw
      have hE : mE G (mA ad (Sy cy ad cn ck v o) s.heap.size) s.heap ad (Sy cy ad cn ck kv8 o) H locs := mE_call hE hB ht hS
      have kf10 : kv8 4 0 = nI 1 := kq9.2.1
      have kf11 : kv8 4 1 = nI n := (kq9.2.2.1).trans kf3
      have kf12 : kv8 4 2 = nI k := (kq9.2.2.2).trans kf4
      exact mx_iret hx hb hr hE hlocks ⟨rfl, ⟨kv8, rfl, fun w h4 h10 h11 => ((kq9.1 w h4 h10 h11).trans (show kv1 w = v w by rw [hkv1, va_up_n _ _ h4])), kf10, (kf11.trans hm1.symm), (kf12.trans hm2.symm)⟩⟩ dX3_mend_26
