set_option maxHeartbeats 4000000 in
set_option maxRecDepth 100000 in
/-- come -/
theorem c_X3_come (l : Launch) (G : va_G) (cy : Nat → ClassId) (ad : Nat → Nat) (cn ck n k : Nat) (v : Nat → Nat → Int32) (o : Nat → Int64) (hn : n ≤ 6) (hk : k ≤ 20) (sz : Nat) (hm1 : v 4 1 = nI n) (hm2 : v 4 2 = nI k) (hq : n < 6) : mMi l yX3_come wsX3_come ({ frames := 8, cells := 0, slots := 0, locals := 140 }) G cy ad (Sy cy ad cn ck v o) sz [.ref (ad 4)] 0 0 (fun (r : Int32) u => r = nI n ∧ ∃ v' : Nat → Nat → Int32, u = (ad, Sy cy ad cn ck v' o) ∧ (∀ w, w ≠ 4 → v' w = v w) ∧ v' 4 0 = nI 0 ∧ v' 4 1 = nI (n + 1) ∧ v' 4 2 = v 4 2) := by
  refine Met.ofW (cc := cX3_come) (maxL := 1) (ret := (some .int)) (by decide) rfl ?_
  intro p e s m args below meth c s₁ B hml hv
  obtain ⟨rfl, hv⟩ := hv
  have hsz := hv.1
  subst hsz
  have hN := hv.2.2
  have hE := mP_E hv
  have hx := B.exec
  have hb := B.bytes
  have hr := B.returns
  have hts := atoms_spec (ws := wsX3_come) B.pre
  have hown : s.vm.findClass RX3 = some m.cls := findClass_of_methodNamed B.named
  have hlocks := B.notSynchronized
  have hiX3 : ∀ w ∈ wsX30, w ∈ wsX3_come := by decide +kernel
  have hl := lv_entry ([.ref (ad 4)]) (n := 1) (Nat.le_of_ble_eq_true rfl)
  rw [lg_entry_eq]
  generalize (lg_sl ([.ref (ad 4)]) ++ List.replicate (1 - (lg_sl ([.ref (ad 4)])).length) Slot.unset).toArray = ls at hl ⊢
  have hl : lv_has ls 1 [(0, .ref (ad 4))] := hl
  refine lv_aload_n hx hb dX3_come_0 rfl (lv_at hl 0 rfl) ?_
  refine lv_iconst (v := nI 0) hx hb dX3_come_1 (by decide) ?_
  refine mx_put (ci := 3) (v := .int (nI 0)) (ty := .int) (C := RX3) (T := TX3) (N := 11) hx hb hts hiX3 tyX3 tyX3_ok nmX3 hown hN hE (S_4f rfl hm1 hm2 rfl) rfl 0 (by decide) (hts (.fieldLink RX3 31 "SealedCupboardsModel" "thrown" "I") (by decide +kernel)) (fun _ h9 => h9) rfl (by decide +kernel) rfl rfl (Nat.le_of_ble_eq_true rfl) dX3_come_2 (fun H locs hE => ?_)
  obtain ⟨kv1, hkv1⟩ : ∃ y99, y99 = va_up v 4 (upd (v 4) 0 (nI 0)) := ⟨_, rfl⟩
  have hE : mE G (mA ad (Sy cy ad cn ck v o) s.heap.size) s.heap ad (Sy cy ad cn ck kv1 o) H locs := by rw [hkv1]; exact (S_4u (upd_s _ _ _) ((upd_n _ _ (by decide)).trans hm1) ((upd_n _ _ (by decide)).trans hm2) ((upd_n _ _ (by decide)).trans rfl)) ▸ hE
  have kf2 : kv1 4 0 = nI 0 := by rw [hkv1, va_up_s, upd_s]
  have kf3 : kv1 4 1 = nI n := by rw [hkv1, va_up_s, upd_n _ _ (by decide)]; exact hm1
  have kf4 : kv1 4 2 = nI k := by rw [hkv1, va_up_s, upd_n _ _ (by decide)]; exact hm2
  have kf5 : kv1 4 10 = v 4 10 := by rw [hkv1, va_up_s, upd_n _ _ (by decide)]
  refine lv_aload_n hx hb dX3_come_5 rfl (lv_at hl 0 rfl) ?_
  refine va_get (D := G) (ci := 3) (v := .int (nI n)) (C := RX3) (T := TX3) (N := 11) hx hb hts hiX3 hown hN.1 (mE_P1 hE (S_4f kf2 kf3 kf4 kf5)) 0 rfl rfl 1 (by decide) (hts (.fieldLink RX3 35 "SealedCupboardsModel" "cupboards" "I") (by decide +kernel)) (fun _ h9 => h9) rfl dX3_come_6 ?_
  refine lv_bipush (v := nI 6) hx hb dX3_come_9 (by decide) ?_
  refine mv_ne (tgt := 20) hx hb (by omega) (by omega) dX3_come_11 (by decide) (fun c6 => ?_) (fun c6 => ?_)
  · skip
    refine lv_aload_n hx hb dX3_come_20 rfl (lv_at hl 0 rfl) ?_
    refine lv_dup hx hb dX3_come_21 rfl ?_
    refine va_get (D := G) (ci := 3) (v := .int (nI n)) (C := RX3) (T := TX3) (N := 11) hx hb hts hiX3 hown hN.1 (mE_P1 hE (S_4f kf2 kf3 kf4 kf5)) 0 rfl rfl 1 (by decide) (hts (.fieldLink RX3 35 "SealedCupboardsModel" "cupboards" "I") (by decide +kernel)) (fun _ h9 => h9) rfl dX3_come_22 ?_
    refine lv_iconst (v := nI 1) hx hb dX3_come_25 (by decide) ?_
    refine mv_iadd (z := nI (n + 1)) hx hb (nI_add _ _) dX3_come_26 ?_
    refine mx_put (ci := 3) (v := .int (nI (n + 1))) (ty := .int) (C := RX3) (T := TX3) (N := 11) hx hb hts hiX3 tyX3 tyX3_ok nmX3 hown hN hE (S_4f kf2 kf3 kf4 kf5) rfl 1 (by decide) (hts (.fieldLink RX3 35 "SealedCupboardsModel" "cupboards" "I") (by decide +kernel)) (fun _ h9 => h9) rfl (by decide +kernel) rfl rfl (Nat.le_of_ble_eq_true rfl) dX3_come_27 (fun H locs hE => ?_)
    obtain ⟨kv7, hkv7⟩ : ∃ y99, y99 = va_up kv1 4 (upd (kv1 4) 1 (nI (n + 1))) := ⟨_, rfl⟩
    have hE : mE G (mA ad (Sy cy ad cn ck v o) s.heap.size) s.heap ad (Sy cy ad cn ck kv7 o) H locs := by rw [hkv7]; exact (S_4u ((upd_n _ _ (by decide)).trans kf2) (upd_s _ _ _) ((upd_n _ _ (by decide)).trans kf4) ((upd_n _ _ (by decide)).trans kf5)) ▸ hE
    have kf8 : kv7 4 0 = nI 0 := by rw [hkv7, va_up_s, upd_n _ _ (by decide)]; exact kf2
    have kf9 : kv7 4 1 = nI (n + 1) := by rw [hkv7, va_up_s, upd_s]
    have kf10 : kv7 4 2 = nI k := by rw [hkv7, va_up_s, upd_n _ _ (by decide)]; exact kf4
    have kf11 : kv7 4 10 = v 4 10 := by rw [hkv7, va_up_s, upd_n _ _ (by decide)]; exact kf5
    refine lv_aload_n hx hb dX3_come_30 rfl (lv_at hl 0 rfl) ?_
    refine va_get (D := G) (ci := 3) (v := .int (nI (n + 1))) (C := RX3) (T := TX3) (N := 11) hx hb hts hiX3 hown hN.1 (mE_P1 hE (S_4f kf8 kf9 kf10 kf11)) 0 rfl rfl 1 (by decide) (hts (.fieldLink RX3 35 "SealedCupboardsModel" "cupboards" "I") (by decide +kernel)) (fun _ h9 => h9) rfl dX3_come_31 ?_
    refine lv_iconst (v := nI 1) hx hb dX3_come_34 (by decide) ?_
    refine mv_isub (z := nI ((n + 1) - 1)) hx hb (pk_sub (by omega)) dX3_come_35 ?_
    exact mx_iret hx hb hr hE hlocks ⟨by rw [Nat.add_sub_cancel], kv7, rfl, fun w h4 => ((show kv7 w = kv1 w by rw [hkv7, va_up_n _ _ h4]).trans (show kv1 w = v w by rw [hkv1, va_up_n _ _ h4])), kf8, kf9, (kf10.trans hm2.symm)⟩ dX3_come_36
  · skip
    exfalso; omega

set_option maxHeartbeats 4000000 in
set_option maxRecDepth 100000 in
/-- come -/
theorem x_X3_come1 (l : Launch) (G : va_G) (cy : Nat → ClassId) (ad : Nat → Nat) (cn ck n k : Nat) (v : Nat → Nat → Int32) (o : Nat → Int64) (hn : n ≤ 6) (hk : k ≤ 20) (sz : Nat) (hm1 : v 4 1 = nI n) (hm2 : v 4 2 = nI k) (hq : n = 6) : mMi l yX3_come wsX3_come ({ frames := 8, cells := 0, slots := 0, locals := 140 }) G cy ad (Sy cy ad cn ck v o) sz [.ref (ad 4)] 0 0 (fun (r : Int32) u => r = nI 0 ∧ ∃ v' : Nat → Nat → Int32, u = (ad, Sy cy ad cn ck v' o) ∧ mQT v v' (nI 1)) := by
  refine Met.ofW (cc := cX3_come) (maxL := 1) (ret := (some .int)) (by decide) rfl ?_
  intro p e s m args below meth c s₁ B hml hv
  obtain ⟨rfl, hv⟩ := hv
  have hsz := hv.1
  subst hsz
  have hN := hv.2.2
  have hE := mP_E hv
  have hx := B.exec
  have hb := B.bytes
  have hr := B.returns
  have hts := atoms_spec (ws := wsX3_come) B.pre
  have hown : s.vm.findClass RX3 = some m.cls := findClass_of_methodNamed B.named
  have hlocks := B.notSynchronized
  have hiX3 : ∀ w ∈ wsX30, w ∈ wsX3_come := by decide +kernel
  have hl := lv_entry ([.ref (ad 4)]) (n := 1) (Nat.le_of_ble_eq_true rfl)
  rw [lg_entry_eq]
  generalize (lg_sl ([.ref (ad 4)]) ++ List.replicate (1 - (lg_sl ([.ref (ad 4)])).length) Slot.unset).toArray = ls at hl ⊢
  have hl : lv_has ls 1 [(0, .ref (ad 4))] := hl
  refine lv_aload_n hx hb dX3_come_0 rfl (lv_at hl 0 rfl) ?_
  refine lv_iconst (v := nI 0) hx hb dX3_come_1 (by decide) ?_
  refine mx_put (ci := 3) (v := .int (nI 0)) (ty := .int) (C := RX3) (T := TX3) (N := 11) hx hb hts hiX3 tyX3 tyX3_ok nmX3 hown hN hE (S_4f rfl hm1 hm2 rfl) rfl 0 (by decide) (hts (.fieldLink RX3 31 "SealedCupboardsModel" "thrown" "I") (by decide +kernel)) (fun _ h9 => h9) rfl (by decide +kernel) rfl rfl (Nat.le_of_ble_eq_true rfl) dX3_come_2 (fun H locs hE => ?_)
  obtain ⟨kv1, hkv1⟩ : ∃ y99, y99 = va_up v 4 (upd (v 4) 0 (nI 0)) := ⟨_, rfl⟩
  have hE : mE G (mA ad (Sy cy ad cn ck v o) s.heap.size) s.heap ad (Sy cy ad cn ck kv1 o) H locs := by rw [hkv1]; exact (S_4u (upd_s _ _ _) ((upd_n _ _ (by decide)).trans hm1) ((upd_n _ _ (by decide)).trans hm2) ((upd_n _ _ (by decide)).trans rfl)) ▸ hE
  have kf2 : kv1 4 0 = nI 0 := by rw [hkv1, va_up_s, upd_s]
  have kf3 : kv1 4 1 = nI n := by rw [hkv1, va_up_s, upd_n _ _ (by decide)]; exact hm1
  have kf4 : kv1 4 2 = nI k := by rw [hkv1, va_up_s, upd_n _ _ (by decide)]; exact hm2
  have kf5 : kv1 4 10 = v 4 10 := by rw [hkv1, va_up_s, upd_n _ _ (by decide)]
  refine lv_aload_n hx hb dX3_come_5 rfl (lv_at hl 0 rfl) ?_
  refine va_get (D := G) (ci := 3) (v := .int (nI n)) (C := RX3) (T := TX3) (N := 11) hx hb hts hiX3 hown hN.1 (mE_P1 hE (S_4f kf2 kf3 kf4 kf5)) 0 rfl rfl 1 (by decide) (hts (.fieldLink RX3 35 "SealedCupboardsModel" "cupboards" "I") (by decide +kernel)) (fun _ h9 => h9) rfl dX3_come_6 ?_
  refine lv_bipush (v := nI 6) hx hb dX3_come_9 (by decide) ?_
  refine mv_ne (tgt := 20) hx hb (by omega) (by omega) dX3_come_11 (by decide) (fun c6 => ?_) (fun c6 => ?_)
  · skip
    exfalso; omega
  · skip
    refine lv_aload_n hx hb dX3_come_14 rfl (lv_at hl 0 rfl) ?_
    refine lv_iconst (v := nI 1) hx hb dX3_come_15 (by decide) ?_
    refine va_calli (va_runV (As := [.int (nI 1)]) (rest := []) ⟨hx, hb, hml, hown, hts⟩ (c_X3_fail l G cy ad cn ck n k kv1 o hn hk _ kf3 kf4 (nI 1)) (cwV 1 hts gX3_come_X3_fail rfl rfl rfl (by decide +kernel) ⟨Nat.le_of_ble_eq_true rfl, Nat.le_of_ble_eq_true rfl⟩) (mP_V (r := (RX3, TX3, 11)) hN hE (S_4f kf2 kf3 kf4 kf5) rfl) rfl rfl hl.1 rfl (lv_room (Nat.le_of_ble_eq_true rfl)) dX3_come_16 ⟨Nat.le_of_ble_eq_true rfl, Nat.le_of_ble_eq_true rfl⟩) hE.2.2.2 (fun q _ h => mE_A hE q h) (mE_A hE) (fun r uq tq H locs ht hvm hw hB hz1 hk1 hS => ?_)
    obtain ⟨rfl, kv7, rfl, kq8⟩ := hw
    have hE : mE G (mA ad (Sy cy ad cn ck v o) s.heap.size) s.heap ad (Sy cy ad cn ck kv7 o) H locs := mE_call hE hB ht hS
    have kf9 : kv7 4 0 = nI 1 := kq8.2.1
    have kf10 : kv7 4 1 = nI n := (kq8.2.2.1).trans kf3
    have kf11 : kv7 4 2 = nI k := (kq8.2.2.2).trans kf4
    exact mx_iret hx hb hr hE hlocks ⟨rfl, ⟨kv7, rfl, fun w h4 h10 h11 => ((kq8.1 w h4 h10 h11).trans (show kv1 w = v w by rw [hkv1, va_up_n _ _ h4])), kf9, (kf10.trans hm1.symm), (kf11.trans hm2.symm)⟩⟩ dX3_come_19

set_option maxHeartbeats 4000000 in
set_option maxRecDepth 100000 in
/-- seal -/
theorem c_X3_seal (l : Launch) (G : va_G) (cy : Nat → ClassId) (ad : Nat → Nat) (cn ck n k : Nat) (v : Nat → Nat → Int32) (o : Nat → Int64) (hn : n ≤ 6) (hk : k ≤ 20) (sz : Nat) (hm1 : v 4 1 = nI n) (hm2 : v 4 2 = nI k) (i : Nat) (h_i : i < n) (hq : k < 20) {f5 : Nat → Int32} (h5 : v 5 = f5) {f6 : Nat → Int32} (h6 : v 6 = f6) {f7 : Nat → Int32} (h7 : v 7 = f7) {f8 : Nat → Int32} (h8 : v 8 = f8) {f9 : Nat → Int32} (h9 : v 9 = f9) : mMi l yX3_seal wsX3_seal ({ frames := 10, cells := 0, slots := 0, locals := 220 }) G cy ad (Sy cy ad cn ck v o) sz [.ref (ad 4), .int (nI i)] 0 0 (fun (r : Int32) u => r = nI k ∧ ∃ v' : Nat → Nat → Int32, u = (ad, Sy cy ad cn ck v' o) ∧ (∀ w, w ≠ 4 → w ≠ 7 → w ≠ 8 → w ≠ 9 → w ≠ 10 → w ≠ 11 → v' w = v w) ∧ v' 4 0 = nI 0 ∧ v' 4 1 = v 4 1 ∧ v' 4 2 = nI (k + 1) ∧ v' 7 = upd f7 k (nI i) ∧ v' 8 = upd f8 k (mS (fun d => f5 (16 * i + d)) 1) ∧ v' 9 = upd f9 k (f6 i)) := by
  refine Met.ofW (cc := cX3_seal) (maxL := 2) (ret := (some .int)) (by decide) rfl ?_
  intro p e s m args below meth c s₁ B hml hv
  obtain ⟨rfl, hv⟩ := hv
  have hsz := hv.1
  subst hsz
  have hN := hv.2.2
  have hE := mP_E hv
  have hx := B.exec
  have hb := B.bytes
  have hr := B.returns
  have hts := atoms_spec (ws := wsX3_seal) B.pre
  have hown : s.vm.findClass RX3 = some m.cls := findClass_of_methodNamed B.named
  have hlocks := B.notSynchronized
  have hiX3 : ∀ w ∈ wsX30, w ∈ wsX3_seal := by decide +kernel
  have hl := lv_entry ([.ref (ad 4), .int (nI i)]) (n := 2) (Nat.le_of_ble_eq_true rfl)
  rw [lg_entry_eq]
  generalize (lg_sl ([.ref (ad 4), .int (nI i)]) ++ List.replicate (2 - (lg_sl ([.ref (ad 4), .int (nI i)])).length) Slot.unset).toArray = ls at hl ⊢
  have hl : lv_has ls 2 [(0, .ref (ad 4)), (1, .int (nI i))] := hl
  refine lv_aload_n hx hb dX3_seal_0 rfl (lv_at hl 0 rfl) ?_
  refine lv_iconst (v := nI 0) hx hb dX3_seal_1 (by decide) ?_
  refine mx_put (ci := 3) (v := .int (nI 0)) (ty := .int) (C := RX3) (T := TX3) (N := 11) hx hb hts hiX3 tyX3 tyX3_ok nmX3 hown hN hE (S_4f rfl hm1 hm2 rfl) rfl 0 (by decide) (hts (.fieldLink RX3 31 "SealedCupboardsModel" "thrown" "I") (by decide +kernel)) (fun _ h9 => h9) rfl (by decide +kernel) rfl rfl (Nat.le_of_ble_eq_true rfl) dX3_seal_2 (fun H locs hE => ?_)
  obtain ⟨kv1, hkv1⟩ : ∃ y99, y99 = va_up v 4 (upd (v 4) 0 (nI 0)) := ⟨_, rfl⟩
  have hE : mE G (mA ad (Sy cy ad cn ck v o) s.heap.size) s.heap ad (Sy cy ad cn ck kv1 o) H locs := by rw [hkv1]; exact (S_4u (upd_s _ _ _) ((upd_n _ _ (by decide)).trans hm1) ((upd_n _ _ (by decide)).trans hm2) ((upd_n _ _ (by decide)).trans rfl)) ▸ hE
  have kf2 : kv1 4 0 = nI 0 := by rw [hkv1, va_up_s, upd_s]
  have kf3 : kv1 4 1 = nI n := by rw [hkv1, va_up_s, upd_n _ _ (by decide)]; exact hm1
  have kf4 : kv1 4 2 = nI k := by rw [hkv1, va_up_s, upd_n _ _ (by decide)]; exact hm2
  have kf5 : kv1 4 10 = v 4 10 := by rw [hkv1, va_up_s, upd_n _ _ (by decide)]
  have ke6 : kv1 5 = f5 := by rw [hkv1, va_up_n _ _ (by omega)]; exact h5
  have ke7 : kv1 6 = f6 := by rw [hkv1, va_up_n _ _ (by omega)]; exact h6
  have ke8 : kv1 7 = f7 := by rw [hkv1, va_up_n _ _ (by omega)]; exact h7
  have ke9 : kv1 8 = f8 := by rw [hkv1, va_up_n _ _ (by omega)]; exact h8
  have ke10 : kv1 9 = f9 := by rw [hkv1, va_up_n _ _ (by omega)]; exact h9
  refine lv_aload_n hx hb dX3_seal_5 rfl (lv_at hl 0 rfl) ?_
  refine lv_iload_n hx hb dX3_seal_6 rfl (lv_at hl 1 rfl) ?_
  refine va_calli (va_runV (As := [.int (nI i)]) (rest := []) ⟨hx, hb, hml, hown, hts⟩ (c_X3_isCupboard l G cy ad cn ck n k kv1 o hn hk _ kf3 kf4 i h_i) (cwV 1 hts gX3_seal_X3_isCupboard rfl rfl rfl (by decide +kernel) ⟨Nat.le_of_ble_eq_true rfl, Nat.le_of_ble_eq_true rfl⟩) (mP_V (r := (RX3, TX3, 11)) hN hE (S_4f kf2 kf3 kf4 kf5) rfl) rfl rfl hl.1 rfl (lv_room (Nat.le_of_ble_eq_true rfl)) dX3_seal_7 ⟨Nat.le_of_ble_eq_true rfl, Nat.le_of_ble_eq_true rfl⟩) hE.2.2.2 (fun q _ h => mE_A hE q h) (mE_A hE) (fun r uq tq H locs ht hvm hw hB hz1 hk1 hS => ?_)
  obtain ⟨rfl, rfl⟩ := hw
  have hE : mE G (mA ad (Sy cy ad cn ck v o) s.heap.size) s.heap ad (Sy cy ad cn ck kv1 o) H locs := mE_call hE hB ht hS
  refine lv_if_ne (tgt := 19) hx hb dX3_seal_10 (by decide) (fun c11 => ?_) (fun c11 => ?_)
  · skip
    have c11 : ¬ 1 = 0 := fun h9 => c11 ((mz_eq (by omega)).mpr h9)
    refine lv_aload_n hx hb dX3_seal_19 rfl (lv_at hl 0 rfl) ?_
    refine va_get (D := G) (ci := 3) (v := .int (nI k)) (C := RX3) (T := TX3) (N := 11) hx hb hts hiX3 hown hN.1 (mE_P1 hE (S_4f kf2 kf3 kf4 kf5)) 0 rfl rfl 2 (by decide) (hts (.fieldLink RX3 42 "SealedCupboardsModel" "seals" "I") (by decide +kernel)) (fun _ h9 => h9) rfl dX3_seal_20 ?_
    refine lv_bipush (v := nI 20) hx hb dX3_seal_23 (by decide) ?_
    refine mv_ne (tgt := 34) hx hb (by omega) (by omega) dX3_seal_25 (by decide) (fun c12 => ?_) (fun c12 => ?_)
    · skip
      refine lv_aload_n hx hb dX3_seal_34 rfl (lv_at hl 0 rfl) ?_
      refine va_get (D := G) (ci := 3) (v := .ref (ad 7)) (C := RX3) (T := TX3) (N := 11) hx hb hts hiX3 hown hN.1 (mE_P1 hE (S_4f kf2 kf3 kf4 kf5)) 0 rfl rfl 5 (by decide) (hts (.fieldLink RX3 16 "SealedCupboardsModel" "sealed" "[I") (by decide +kernel)) (fun _ h9 => h9) rfl dX3_seal_35 ?_
      refine lv_aload_n hx hb dX3_seal_38 rfl (lv_at hl 0 rfl) ?_
      refine va_get (D := G) (ci := 3) (v := .int (nI k)) (C := RX3) (T := TX3) (N := 11) hx hb hts hiX3 hown hN.1 (mE_P1 hE (S_4f kf2 kf3 kf4 kf5)) 0 rfl rfl 2 (by decide) (hts (.fieldLink RX3 42 "SealedCupboardsModel" "seals" "I") (by decide +kernel)) (fun _ h9 => h9) rfl dX3_seal_39 ?_
      refine lv_iload_n hx hb dX3_seal_42 rfl (lv_at hl 1 rfl) ?_
      refine mx_iast hx hb hN hE (S_7e ke8) (j := k) rfl (by omega) (by decide) dX3_seal_43 (fun H locs hE => ?_)
      obtain ⟨kv13, hkv13⟩ : ∃ y99, y99 = va_up kv1 7 (upd (f7) k (nI i)) := ⟨_, rfl⟩
      have hE : mE G (mA ad (Sy cy ad cn ck v o) s.heap.size) s.heap ad (Sy cy ad cn ck kv13 o) H locs := by rw [hkv13]; exact (S_up sy_7) ▸ hE
      have ke14 : kv13 5 = f5 := by rw [hkv13, va_up_n _ _ (by omega)]; exact ke6
      have ke15 : kv13 6 = f6 := by rw [hkv13, va_up_n _ _ (by omega)]; exact ke7
      have ke16 : kv13 8 = f8 := by rw [hkv13, va_up_n _ _ (by omega)]; exact ke9
      have ke17 : kv13 9 = f9 := by rw [hkv13, va_up_n _ _ (by omega)]; exact ke10
      have ke18 : kv13 7 = (upd (f7) k (nI i)) := by rw [hkv13, va_up_s]
      have kf19 : kv13 4 0 = nI 0 := by rw [hkv13, va_up_n _ _ (by omega)]; exact kf2
      have kf20 : kv13 4 1 = nI n := by rw [hkv13, va_up_n _ _ (by omega)]; exact kf3
      have kf21 : kv13 4 2 = nI k := by rw [hkv13, va_up_n _ _ (by omega)]; exact kf4
      have kf22 : kv13 4 10 = v 4 10 := by rw [hkv13, va_up_n _ _ (by omega)]; exact kf5
      refine lv_aload_n hx hb dX3_seal_44 rfl (lv_at hl 0 rfl) ?_
      refine va_get (D := G) (ci := 3) (v := .ref (ad 8)) (C := RX3) (T := TX3) (N := 11) hx hb hts hiX3 hown hN.1 (mE_P1 hE (S_4f kf19 kf20 kf21 kf22)) 0 rfl rfl 6 (by decide) (hts (.fieldLink RX3 19 "SealedCupboardsModel" "roots" "[I") (by decide +kernel)) (fun _ h9 => h9) rfl dX3_seal_45 ?_
      refine lv_aload_n hx hb dX3_seal_48 rfl (lv_at hl 0 rfl) ?_
      refine va_get (D := G) (ci := 3) (v := .int (nI k)) (C := RX3) (T := TX3) (N := 11) hx hb hts hiX3 hown hN.1 (mE_P1 hE (S_4f kf19 kf20 kf21 kf22)) 0 rfl rfl 2 (by decide) (hts (.fieldLink RX3 42 "SealedCupboardsModel" "seals" "I") (by decide +kernel)) (fun _ h9 => h9) rfl dX3_seal_49 ?_
      refine lv_aload_n hx hb dX3_seal_52 rfl (lv_at hl 0 rfl) ?_
      refine lv_iload_n hx hb dX3_seal_53 rfl (lv_at hl 1 rfl) ?_
      refine va_calli (va_runV (As := [.int (nI i)]) (rest := [.int (nI k), .ref (ad 8)]) ⟨hx, hb, hml, hown, hts⟩ (c_X3_root l G cy ad cn ck n k kv13 o hn hk _ kf20 kf21 i h_i ke14) (cwV 1 hts gX3_seal_X3_root rfl rfl rfl (by decide +kernel) ⟨Nat.le_of_ble_eq_true rfl, Nat.le_of_ble_eq_true rfl⟩) (mP_V (r := (RX3, TX3, 11)) hN hE (S_4f kf19 kf20 kf21 kf22) rfl) rfl rfl hl.1 rfl (lv_room (Nat.le_of_ble_eq_true rfl)) dX3_seal_54 ⟨Nat.le_of_ble_eq_true rfl, Nat.le_of_ble_eq_true rfl⟩) hE.2.2.2 (fun q _ h => mE_A hE q h) (mE_A hE) (fun r uq tq H locs ht hvm hw hB hz1 hk1 hS => ?_)
      obtain ⟨rfl, kv23, rfl, kq24⟩ := hw
      have hE : mE G (mA ad (Sy cy ad cn ck v o) s.heap.size) s.heap ad (Sy cy ad cn ck kv23 o) H locs := mE_call hE hB ht hS
      have ke25 : kv23 5 = f5 := (kq24.1 5 (by decide) (by decide) (by decide)).trans ke14
      have ke26 : kv23 6 = f6 := (kq24.1 6 (by decide) (by decide) (by decide)).trans ke15
      have ke27 : kv23 7 = (upd (f7) k (nI i)) := (kq24.1 7 (by decide) (by decide) (by decide)).trans ke18
      have ke28 : kv23 8 = f8 := (kq24.1 8 (by decide) (by decide) (by decide)).trans ke16
      have ke29 : kv23 9 = f9 := (kq24.1 9 (by decide) (by decide) (by decide)).trans ke17
      have kf30 : kv23 4 0 = nI 0 := (kq24.2.1).trans kf19
      have kf31 : kv23 4 1 = nI n := (kq24.2.2.1).trans kf20
      have kf32 : kv23 4 2 = nI k := (kq24.2.2.2).trans kf21
      refine mx_iast hx hb hN hE (S_8e ke28) (j := k) rfl (by omega) (by decide) dX3_seal_57 (fun H locs hE => ?_)
      obtain ⟨kv33, hkv33⟩ : ∃ y99, y99 = va_up kv23 8 (upd (f8) k (mS (fun d => f5 (16 * i + d)) 1)) := ⟨_, rfl⟩
      have hE : mE G (mA ad (Sy cy ad cn ck v o) s.heap.size) s.heap ad (Sy cy ad cn ck kv33 o) H locs := by rw [hkv33]; exact (S_up sy_8) ▸ hE
      have ke34 : kv33 5 = f5 := by rw [hkv33, va_up_n _ _ (by omega)]; exact ke25
      have ke35 : kv33 6 = f6 := by rw [hkv33, va_up_n _ _ (by omega)]; exact ke26
      have ke36 : kv33 7 = (upd (f7) k (nI i)) := by rw [hkv33, va_up_n _ _ (by omega)]; exact ke27
      have ke37 : kv33 9 = f9 := by rw [hkv33, va_up_n _ _ (by omega)]; exact ke29
      have ke38 : kv33 8 = (upd (f8) k (mS (fun d => f5 (16 * i + d)) 1)) := by rw [hkv33, va_up_s]
      have kf39 : kv33 4 0 = nI 0 := by rw [hkv33, va_up_n _ _ (by omega)]; exact kf30
      have kf40 : kv33 4 1 = nI n := by rw [hkv33, va_up_n _ _ (by omega)]; exact kf31
      have kf41 : kv33 4 2 = nI k := by rw [hkv33, va_up_n _ _ (by omega)]; exact kf32
      have kf42 : kv33 4 10 = kv23 4 10 := by rw [hkv33, va_up_n _ _ (by omega)]
      refine lv_aload_n hx hb dX3_seal_58 rfl (lv_at hl 0 rfl) ?_
      refine va_get (D := G) (ci := 3) (v := .ref (ad 9)) (C := RX3) (T := TX3) (N := 11) hx hb hts hiX3 hown hN.1 (mE_P1 hE (S_4f kf39 kf40 kf41 kf42)) 0 rfl rfl 7 (by decide) (hts (.fieldLink RX3 22 "SealedCupboardsModel" "then" "[I") (by decide +kernel)) (fun _ h9 => h9) rfl dX3_seal_59 ?_
      refine lv_aload_n hx hb dX3_seal_62 rfl (lv_at hl 0 rfl) ?_
      refine va_get (D := G) (ci := 3) (v := .int (nI k)) (C := RX3) (T := TX3) (N := 11) hx hb hts hiX3 hown hN.1 (mE_P1 hE (S_4f kf39 kf40 kf41 kf42)) 0 rfl rfl 2 (by decide) (hts (.fieldLink RX3 42 "SealedCupboardsModel" "seals" "I") (by decide +kernel)) (fun _ h9 => h9) rfl dX3_seal_63 ?_
      refine lv_aload_n hx hb dX3_seal_66 rfl (lv_at hl 0 rfl) ?_
      refine va_get (D := G) (ci := 3) (v := .ref (ad 6)) (C := RX3) (T := TX3) (N := 11) hx hb hts hiX3 hown hN.1 (mE_P1 hE (S_4f kf39 kf40 kf41 kf42)) 0 rfl rfl 4 (by decide) (hts (.fieldLink RX3 13 "SealedCupboardsModel" "changes" "[I") (by decide +kernel)) (fun _ h9 => h9) rfl dX3_seal_67 ?_
      refine lv_iload_n hx hb dX3_seal_70 rfl (lv_at hl 1 rfl) ?_
      refine mx_iald hx hb hN hE (S_6e ke35) (j := i) rfl (by omega) (by decide) dX3_seal_71 ?_
      refine mx_iast hx hb hN hE (S_9e ke37) (j := k) rfl (by omega) (by decide) dX3_seal_72 (fun H locs hE => ?_)
      obtain ⟨kv43, hkv43⟩ : ∃ y99, y99 = va_up kv33 9 (upd (f9) k (f6 i)) := ⟨_, rfl⟩
      have hE : mE G (mA ad (Sy cy ad cn ck v o) s.heap.size) s.heap ad (Sy cy ad cn ck kv43 o) H locs := by rw [hkv43]; exact (S_up sy_9) ▸ hE
      have ke44 : kv43 5 = f5 := by rw [hkv43, va_up_n _ _ (by omega)]; exact ke34
      have ke45 : kv43 6 = f6 := by rw [hkv43, va_up_n _ _ (by omega)]; exact ke35
      have ke46 : kv43 7 = (upd (f7) k (nI i)) := by rw [hkv43, va_up_n _ _ (by omega)]; exact ke36
      have ke47 : kv43 8 = (upd (f8) k (mS (fun d => f5 (16 * i + d)) 1)) := by rw [hkv43, va_up_n _ _ (by omega)]; exact ke38
      have ke48 : kv43 9 = (upd (f9) k (f6 i)) := by rw [hkv43, va_up_s]
      have kf49 : kv43 4 0 = nI 0 := by rw [hkv43, va_up_n _ _ (by omega)]; exact kf39
      have kf50 : kv43 4 1 = nI n := by rw [hkv43, va_up_n _ _ (by omega)]; exact kf40
      have kf51 : kv43 4 2 = nI k := by rw [hkv43, va_up_n _ _ (by omega)]; exact kf41
      have kf52 : kv43 4 10 = kv23 4 10 := by rw [hkv43, va_up_n _ _ (by omega)]; exact kf42
      refine lv_aload_n hx hb dX3_seal_73 rfl (lv_at hl 0 rfl) ?_
      refine lv_dup hx hb dX3_seal_74 rfl ?_
      refine va_get (D := G) (ci := 3) (v := .int (nI k)) (C := RX3) (T := TX3) (N := 11) hx hb hts hiX3 hown hN.1 (mE_P1 hE (S_4f kf49 kf50 kf51 kf52)) 0 rfl rfl 2 (by decide) (hts (.fieldLink RX3 42 "SealedCupboardsModel" "seals" "I") (by decide +kernel)) (fun _ h9 => h9) rfl dX3_seal_75 ?_
      refine lv_iconst (v := nI 1) hx hb dX3_seal_78 (by decide) ?_
      refine mv_iadd (z := nI (k + 1)) hx hb (nI_add _ _) dX3_seal_79 ?_
      refine mx_put (ci := 3) (v := .int (nI (k + 1))) (ty := .int) (C := RX3) (T := TX3) (N := 11) hx hb hts hiX3 tyX3 tyX3_ok nmX3 hown hN hE (S_4f kf49 kf50 kf51 kf52) rfl 2 (by decide) (hts (.fieldLink RX3 42 "SealedCupboardsModel" "seals" "I") (by decide +kernel)) (fun _ h9 => h9) rfl (by decide +kernel) rfl rfl (Nat.le_of_ble_eq_true rfl) dX3_seal_80 (fun H locs hE => ?_)
      obtain ⟨kv53, hkv53⟩ : ∃ y99, y99 = va_up kv43 4 (upd (kv43 4) 2 (nI (k + 1))) := ⟨_, rfl⟩
      have hE : mE G (mA ad (Sy cy ad cn ck v o) s.heap.size) s.heap ad (Sy cy ad cn ck kv53 o) H locs := by rw [hkv53]; exact (S_4u ((upd_n _ _ (by decide)).trans kf49) ((upd_n _ _ (by decide)).trans kf50) (upd_s _ _ _) ((upd_n _ _ (by decide)).trans kf52)) ▸ hE
      have kf54 : kv53 4 0 = nI 0 := by rw [hkv53, va_up_s, upd_n _ _ (by decide)]; exact kf49
      have kf55 : kv53 4 1 = nI n := by rw [hkv53, va_up_s, upd_n _ _ (by decide)]; exact kf50
      have kf56 : kv53 4 2 = nI (k + 1) := by rw [hkv53, va_up_s, upd_s]
      have kf57 : kv53 4 10 = kv23 4 10 := by rw [hkv53, va_up_s, upd_n _ _ (by decide)]; exact kf52
      have ke58 : kv53 5 = f5 := by rw [hkv53, va_up_n _ _ (by omega)]; exact ke44
      have ke59 : kv53 6 = f6 := by rw [hkv53, va_up_n _ _ (by omega)]; exact ke45
      have ke60 : kv53 7 = (upd (f7) k (nI i)) := by rw [hkv53, va_up_n _ _ (by omega)]; exact ke46
      have ke61 : kv53 8 = (upd (f8) k (mS (fun d => f5 (16 * i + d)) 1)) := by rw [hkv53, va_up_n _ _ (by omega)]; exact ke47
      have ke62 : kv53 9 = (upd (f9) k (f6 i)) := by rw [hkv53, va_up_n _ _ (by omega)]; exact ke48
      refine lv_aload_n hx hb dX3_seal_83 rfl (lv_at hl 0 rfl) ?_
      refine va_get (D := G) (ci := 3) (v := .int (nI (k + 1))) (C := RX3) (T := TX3) (N := 11) hx hb hts hiX3 hown hN.1 (mE_P1 hE (S_4f kf54 kf55 kf56 kf57)) 0 rfl rfl 2 (by decide) (hts (.fieldLink RX3 42 "SealedCupboardsModel" "seals" "I") (by decide +kernel)) (fun _ h9 => h9) rfl dX3_seal_84 ?_
      refine lv_iconst (v := nI 1) hx hb dX3_seal_87 (by decide) ?_
      refine mv_isub (z := nI ((k + 1) - 1)) hx hb (pk_sub (by omega)) dX3_seal_88 ?_
      exact mx_iret hx hb hr hE hlocks ⟨by rw [Nat.add_sub_cancel], kv53, rfl, fun w h4w h7w h8w h9w h10w h11w => ((show kv53 w = kv43 w by rw [hkv53, va_up_n _ _ h4w]).trans ((show kv43 w = kv33 w by rw [hkv43, va_up_n _ _ h9w]).trans ((show kv33 w = kv23 w by rw [hkv33, va_up_n _ _ h8w]).trans ((kq24.1 w h4w h10w h11w).trans ((show kv13 w = kv1 w by rw [hkv13, va_up_n _ _ h7w]).trans (show kv1 w = v w by rw [hkv1, va_up_n _ _ h4w])))))), kf54, (kf55.trans hm1.symm), kf56, ke60, ke61, ke62⟩ dX3_seal_89
    · skip
      exfalso; omega
  · skip
    have c11 := (mz_eq (by omega)).mp c11
    exfalso; omega

set_option maxHeartbeats 4000000 in
set_option maxRecDepth 100000 in
/-- seal -/
theorem x_X3_seal1 (l : Launch) (G : va_G) (cy : Nat → ClassId) (ad : Nat → Nat) (cn ck n k : Nat) (v : Nat → Nat → Int32) (o : Nat → Int64) (hn : n ≤ 6) (hk : k ≤ 20) (sz : Nat) (hm1 : v 4 1 = nI n) (hm2 : v 4 2 = nI k) (x : Int32) (hbad : x < 0 ∨ nI n ≤ x) : mMi l yX3_seal wsX3_seal ({ frames := 10, cells := 0, slots := 0, locals := 220 }) G cy ad (Sy cy ad cn ck v o) sz [.ref (ad 4), .int x] 0 0 (fun (r : Int32) u => r = nI 0 ∧ ∃ v' : Nat → Nat → Int32, u = (ad, Sy cy ad cn ck v' o) ∧ mQT v v' (nI 1)) := by
  refine Met.ofW (cc := cX3_seal) (maxL := 2) (ret := (some .int)) (by decide) rfl ?_
  intro p e s m args below meth c s₁ B hml hv
  obtain ⟨rfl, hv⟩ := hv
  have hsz := hv.1
  subst hsz
  have hN := hv.2.2
  have hE := mP_E hv
  have hx := B.exec
  have hb := B.bytes
  have hr := B.returns
  have hts := atoms_spec (ws := wsX3_seal) B.pre
  have hown : s.vm.findClass RX3 = some m.cls := findClass_of_methodNamed B.named
  have hlocks := B.notSynchronized
  have hiX3 : ∀ w ∈ wsX30, w ∈ wsX3_seal := by decide +kernel
  have hl := lv_entry ([.ref (ad 4), .int x]) (n := 2) (Nat.le_of_ble_eq_true rfl)
  rw [lg_entry_eq]
  generalize (lg_sl ([.ref (ad 4), .int x]) ++ List.replicate (2 - (lg_sl ([.ref (ad 4), .int x])).length) Slot.unset).toArray = ls at hl ⊢
  have hl : lv_has ls 2 [(0, .ref (ad 4)), (1, .int x)] := hl
  refine lv_aload_n hx hb dX3_seal_0 rfl (lv_at hl 0 rfl) ?_
  refine lv_iconst (v := nI 0) hx hb dX3_seal_1 (by decide) ?_
  refine mx_put (ci := 3) (v := .int (nI 0)) (ty := .int) (C := RX3) (T := TX3) (N := 11) hx hb hts hiX3 tyX3 tyX3_ok nmX3 hown hN hE (S_4f rfl hm1 hm2 rfl) rfl 0 (by decide) (hts (.fieldLink RX3 31 "SealedCupboardsModel" "thrown" "I") (by decide +kernel)) (fun _ h9 => h9) rfl (by decide +kernel) rfl rfl (Nat.le_of_ble_eq_true rfl) dX3_seal_2 (fun H locs hE => ?_)
  obtain ⟨kv1, hkv1⟩ : ∃ y99, y99 = va_up v 4 (upd (v 4) 0 (nI 0)) := ⟨_, rfl⟩
  have hE : mE G (mA ad (Sy cy ad cn ck v o) s.heap.size) s.heap ad (Sy cy ad cn ck kv1 o) H locs := by rw [hkv1]; exact (S_4u (upd_s _ _ _) ((upd_n _ _ (by decide)).trans hm1) ((upd_n _ _ (by decide)).trans hm2) ((upd_n _ _ (by decide)).trans rfl)) ▸ hE
  have kf2 : kv1 4 0 = nI 0 := by rw [hkv1, va_up_s, upd_s]
  have kf3 : kv1 4 1 = nI n := by rw [hkv1, va_up_s, upd_n _ _ (by decide)]; exact hm1
  have kf4 : kv1 4 2 = nI k := by rw [hkv1, va_up_s, upd_n _ _ (by decide)]; exact hm2
  have kf5 : kv1 4 10 = v 4 10 := by rw [hkv1, va_up_s, upd_n _ _ (by decide)]
  refine lv_aload_n hx hb dX3_seal_5 rfl (lv_at hl 0 rfl) ?_
  refine lv_iload_n hx hb dX3_seal_6 rfl (lv_at hl 1 rfl) ?_
  refine va_calli (va_runV (As := [.int x]) (rest := []) ⟨hx, hb, hml, hown, hts⟩ (x_X3_isCupboard l G cy ad cn ck n k kv1 o hn hk _ kf3 kf4 x hbad) (cwV 1 hts gX3_seal_X3_isCupboard rfl rfl rfl (by decide +kernel) ⟨Nat.le_of_ble_eq_true rfl, Nat.le_of_ble_eq_true rfl⟩) (mP_V (r := (RX3, TX3, 11)) hN hE (S_4f kf2 kf3 kf4 kf5) rfl) rfl rfl hl.1 rfl (lv_room (Nat.le_of_ble_eq_true rfl)) dX3_seal_7 ⟨Nat.le_of_ble_eq_true rfl, Nat.le_of_ble_eq_true rfl⟩) hE.2.2.2 (fun q _ h => mE_A hE q h) (mE_A hE) (fun r uq tq H locs ht hvm hw hB hz1 hk1 hS => ?_)
  obtain ⟨rfl, rfl⟩ := hw
  have hE : mE G (mA ad (Sy cy ad cn ck v o) s.heap.size) s.heap ad (Sy cy ad cn ck kv1 o) H locs := mE_call hE hB ht hS
  refine lv_if_ne (tgt := 19) hx hb dX3_seal_10 (by decide) (fun c6 => ?_) (fun c6 => ?_)
  · skip
    have c6 : ¬ 0 = 0 := fun h9 => c6 ((mz_eq (by omega)).mpr h9)
    exfalso; omega
  · skip
    have c6 := (mz_eq (by omega)).mp c6
    refine lv_aload_n hx hb dX3_seal_13 rfl (lv_at hl 0 rfl) ?_
    refine lv_iconst (v := nI 1) hx hb dX3_seal_14 (by decide) ?_
    refine va_calli (va_runV (As := [.int (nI 1)]) (rest := []) ⟨hx, hb, hml, hown, hts⟩ (c_X3_fail l G cy ad cn ck n k kv1 o hn hk _ kf3 kf4 (nI 1)) (cwV 1 hts gX3_seal_X3_fail rfl rfl rfl (by decide +kernel) ⟨Nat.le_of_ble_eq_true rfl, Nat.le_of_ble_eq_true rfl⟩) (mP_V (r := (RX3, TX3, 11)) hN hE (S_4f kf2 kf3 kf4 kf5) rfl) rfl rfl hl.1 rfl (lv_room (Nat.le_of_ble_eq_true rfl)) dX3_seal_15 ⟨Nat.le_of_ble_eq_true rfl, Nat.le_of_ble_eq_true rfl⟩) hE.2.2.2 (fun q _ h => mE_A hE q h) (mE_A hE) (fun r uq tq H locs ht hvm hw hB hz1 hk1 hS => ?_)
    obtain ⟨rfl, kv7, rfl, kq8⟩ := hw
    have hE : mE G (mA ad (Sy cy ad cn ck v o) s.heap.size) s.heap ad (Sy cy ad cn ck kv7 o) H locs := mE_call hE hB ht hS
    have kf9 : kv7 4 0 = nI 1 := kq8.2.1
    have kf10 : kv7 4 1 = nI n := (kq8.2.2.1).trans kf3
    have kf11 : kv7 4 2 = nI k := (kq8.2.2.2).trans kf4
    exact mx_iret hx hb hr hE hlocks ⟨rfl, ⟨kv7, rfl, fun w h4 h10 h11 => ((kq8.1 w h4 h10 h11).trans (show kv1 w = v w by rw [hkv1, va_up_n _ _ h4])), kf9, (kf10.trans hm1.symm), (kf11.trans hm2.symm)⟩⟩ dX3_seal_18

set_option maxHeartbeats 4000000 in
set_option maxRecDepth 100000 in
/-- seal -/
theorem x_X3_seal2 (l : Launch) (G : va_G) (cy : Nat → ClassId) (ad : Nat → Nat) (cn ck n k : Nat) (v : Nat → Nat → Int32) (o : Nat → Int64) (hn : n ≤ 6) (hk : k ≤ 20) (sz : Nat) (hm1 : v 4 1 = nI n) (hm2 : v 4 2 = nI k) (i : Nat) (h_i : i < n) (hq : k = 20) : mMi l yX3_seal wsX3_seal ({ frames := 10, cells := 0, slots := 0, locals := 220 }) G cy ad (Sy cy ad cn ck v o) sz [.ref (ad 4), .int (nI i)] 0 0 (fun (r : Int32) u => r = nI 0 ∧ ∃ v' : Nat → Nat → Int32, u = (ad, Sy cy ad cn ck v' o) ∧ mQT v v' (nI 2)) := by
  refine Met.ofW (cc := cX3_seal) (maxL := 2) (ret := (some .int)) (by decide) rfl ?_
  intro p e s m args below meth c s₁ B hml hv
  obtain ⟨rfl, hv⟩ := hv
  have hsz := hv.1
  subst hsz
  have hN := hv.2.2
  have hE := mP_E hv
  have hx := B.exec
  have hb := B.bytes
  have hr := B.returns
  have hts := atoms_spec (ws := wsX3_seal) B.pre
  have hown : s.vm.findClass RX3 = some m.cls := findClass_of_methodNamed B.named
  have hlocks := B.notSynchronized
  have hiX3 : ∀ w ∈ wsX30, w ∈ wsX3_seal := by decide +kernel
  have hl := lv_entry ([.ref (ad 4), .int (nI i)]) (n := 2) (Nat.le_of_ble_eq_true rfl)
  rw [lg_entry_eq]
  generalize (lg_sl ([.ref (ad 4), .int (nI i)]) ++ List.replicate (2 - (lg_sl ([.ref (ad 4), .int (nI i)])).length) Slot.unset).toArray = ls at hl ⊢
  have hl : lv_has ls 2 [(0, .ref (ad 4)), (1, .int (nI i))] := hl
  refine lv_aload_n hx hb dX3_seal_0 rfl (lv_at hl 0 rfl) ?_
  refine lv_iconst (v := nI 0) hx hb dX3_seal_1 (by decide) ?_
  refine mx_put (ci := 3) (v := .int (nI 0)) (ty := .int) (C := RX3) (T := TX3) (N := 11) hx hb hts hiX3 tyX3 tyX3_ok nmX3 hown hN hE (S_4f rfl hm1 hm2 rfl) rfl 0 (by decide) (hts (.fieldLink RX3 31 "SealedCupboardsModel" "thrown" "I") (by decide +kernel)) (fun _ h9 => h9) rfl (by decide +kernel) rfl rfl (Nat.le_of_ble_eq_true rfl) dX3_seal_2 (fun H locs hE => ?_)
  obtain ⟨kv1, hkv1⟩ : ∃ y99, y99 = va_up v 4 (upd (v 4) 0 (nI 0)) := ⟨_, rfl⟩
  have hE : mE G (mA ad (Sy cy ad cn ck v o) s.heap.size) s.heap ad (Sy cy ad cn ck kv1 o) H locs := by rw [hkv1]; exact (S_4u (upd_s _ _ _) ((upd_n _ _ (by decide)).trans hm1) ((upd_n _ _ (by decide)).trans hm2) ((upd_n _ _ (by decide)).trans rfl)) ▸ hE
  have kf2 : kv1 4 0 = nI 0 := by rw [hkv1, va_up_s, upd_s]
  have kf3 : kv1 4 1 = nI n := by rw [hkv1, va_up_s, upd_n _ _ (by decide)]; exact hm1
  have kf4 : kv1 4 2 = nI k := by rw [hkv1, va_up_s, upd_n _ _ (by decide)]; exact hm2
  have kf5 : kv1 4 10 = v 4 10 := by rw [hkv1, va_up_s, upd_n _ _ (by decide)]
  refine lv_aload_n hx hb dX3_seal_5 rfl (lv_at hl 0 rfl) ?_
  refine lv_iload_n hx hb dX3_seal_6 rfl (lv_at hl 1 rfl) ?_
  refine va_calli (va_runV (As := [.int (nI i)]) (rest := []) ⟨hx, hb, hml, hown, hts⟩ (c_X3_isCupboard l G cy ad cn ck n k kv1 o hn hk _ kf3 kf4 i h_i) (cwV 1 hts gX3_seal_X3_isCupboard rfl rfl rfl (by decide +kernel) ⟨Nat.le_of_ble_eq_true rfl, Nat.le_of_ble_eq_true rfl⟩) (mP_V (r := (RX3, TX3, 11)) hN hE (S_4f kf2 kf3 kf4 kf5) rfl) rfl rfl hl.1 rfl (lv_room (Nat.le_of_ble_eq_true rfl)) dX3_seal_7 ⟨Nat.le_of_ble_eq_true rfl, Nat.le_of_ble_eq_true rfl⟩) hE.2.2.2 (fun q _ h => mE_A hE q h) (mE_A hE) (fun r uq tq H locs ht hvm hw hB hz1 hk1 hS => ?_)
  obtain ⟨rfl, rfl⟩ := hw
  have hE : mE G (mA ad (Sy cy ad cn ck v o) s.heap.size) s.heap ad (Sy cy ad cn ck kv1 o) H locs := mE_call hE hB ht hS
  refine lv_if_ne (tgt := 19) hx hb dX3_seal_10 (by decide) (fun c6 => ?_) (fun c6 => ?_)
  · skip
    have c6 : ¬ 1 = 0 := fun h9 => c6 ((mz_eq (by omega)).mpr h9)
    refine lv_aload_n hx hb dX3_seal_19 rfl (lv_at hl 0 rfl) ?_
    refine va_get (D := G) (ci := 3) (v := .int (nI k)) (C := RX3) (T := TX3) (N := 11) hx hb hts hiX3 hown hN.1 (mE_P1 hE (S_4f kf2 kf3 kf4 kf5)) 0 rfl rfl 2 (by decide) (hts (.fieldLink RX3 42 "SealedCupboardsModel" "seals" "I") (by decide +kernel)) (fun _ h9 => h9) rfl dX3_seal_20 ?_
    refine lv_bipush (v := nI 20) hx hb dX3_seal_23 (by decide) ?_
    refine mv_ne (tgt := 34) hx hb (by omega) (by omega) dX3_seal_25 (by decide) (fun c7 => ?_) (fun c7 => ?_)
    · skip
      exfalso; omega
    · skip
      refine lv_aload_n hx hb dX3_seal_28 rfl (lv_at hl 0 rfl) ?_
      refine lv_iconst (v := nI 2) hx hb dX3_seal_29 (by decide) ?_
      refine va_calli (va_runV (As := [.int (nI 2)]) (rest := []) ⟨hx, hb, hml, hown, hts⟩ (c_X3_fail l G cy ad cn ck n k kv1 o hn hk _ kf3 kf4 (nI 2)) (cwV 1 hts gX3_seal_X3_fail rfl rfl rfl (by decide +kernel) ⟨Nat.le_of_ble_eq_true rfl, Nat.le_of_ble_eq_true rfl⟩) (mP_V (r := (RX3, TX3, 11)) hN hE (S_4f kf2 kf3 kf4 kf5) rfl) rfl rfl hl.1 rfl (lv_room (Nat.le_of_ble_eq_true rfl)) dX3_seal_30 ⟨Nat.le_of_ble_eq_true rfl, Nat.le_of_ble_eq_true rfl⟩) hE.2.2.2 (fun q _ h => mE_A hE q h) (mE_A hE) (fun r uq tq H locs ht hvm hw hB hz1 hk1 hS => ?_)
      obtain ⟨rfl, kv8, rfl, kq9⟩ := hw
      have hE : mE G (mA ad (Sy cy ad cn ck v o) s.heap.size) s.heap ad (Sy cy ad cn ck kv8 o) H locs := mE_call hE hB ht hS
      have kf10 : kv8 4 0 = nI 2 := kq9.2.1
      have kf11 : kv8 4 1 = nI n := (kq9.2.2.1).trans kf3
      have kf12 : kv8 4 2 = nI k := (kq9.2.2.2).trans kf4
      exact mx_iret hx hb hr hE hlocks ⟨rfl, ⟨kv8, rfl, fun w h4 h10 h11 => ((kq9.1 w h4 h10 h11).trans (show kv1 w = v w by rw [hkv1, va_up_n _ _ h4])), kf10, (kf11.trans hm1.symm), (kf12.trans hm2.symm)⟩⟩ dX3_seal_33
  · skip
    have c6 := (mz_eq (by omega)).mp c6
    exfalso; omega

set_option maxHeartbeats 4000000 in
set_option maxRecDepth 100000 in
/-- swapped -/
theorem c_X3_swapped (l : Launch) (G : va_G) (cy : Nat → ClassId) (ad : Nat → Nat) (cn ck n k : Nat) (v : Nat → Nat → Int32) (o : Nat → Int64) (hn : n ≤ 6) (hk : k ≤ 20) (sz : Nat) (hm1 : v 4 1 = nI n) (hm2 : v 4 2 = nI k) (j : Nat) (h_j : j < k) (cu : Nat) (h_cu : cu < n) {f5 : Nat → Int32} (h5 : v 5 = f5) {f7 : Nat → Int32} (h7 : v 7 = f7) {f8 : Nat → Int32} (h8 : v 8 = f8) (hsc : f7 j = nI cu) : mMi l yX3_swapped wsX3_swapped ({ frames := 10, cells := 0, slots := 0, locals := 220 }) G cy ad (Sy cy ad cn ck v o) sz [.ref (ad 4), .int (nI j)] 0 0 (fun (r : Int32) u => (if mS (fun d => f5 (16 * cu + d)) 1 = f8 j then r = -1 else mSwR (fun d => f5 (16 * cu + d)) (f8 j) r) ∧ ∃ v' : Nat → Nat → Int32, u = (ad, Sy cy ad cn ck v' o) ∧ mQT v v' (nI 0)) := by
  refine Met.ofW (cc := cX3_swapped) (maxL := 6) (ret := (some .int)) (by decide) rfl ?_
  intro p e s m args below meth c s₁ B hml hv
  obtain ⟨rfl, hv⟩ := hv
  have hsz := hv.1
  subst hsz
  have hN := hv.2.2
  have hE := mP_E hv
  have hx := B.exec
  have hb := B.bytes
  have hr := B.returns
  have hts := atoms_spec (ws := wsX3_swapped) B.pre
  have hown : s.vm.findClass RX3 = some m.cls := findClass_of_methodNamed B.named
  have hlocks := B.notSynchronized
  have hiX3 : ∀ w ∈ wsX30, w ∈ wsX3_swapped := by decide +kernel
  have hl := lv_entry ([.ref (ad 4), .int (nI j)]) (n := 6) (Nat.le_of_ble_eq_true rfl)
  rw [lg_entry_eq]
  generalize (lg_sl ([.ref (ad 4), .int (nI j)]) ++ List.replicate (6 - (lg_sl ([.ref (ad 4), .int (nI j)])).length) Slot.unset).toArray = ls at hl ⊢
  have hl : lv_has ls 6 [(0, .ref (ad 4)), (1, .int (nI j))] := hl
  refine lv_aload_n hx hb dX3_swapped_0 rfl (lv_at hl 0 rfl) ?_
  refine lv_iconst (v := nI 0) hx hb dX3_swapped_1 (by decide) ?_
  refine mx_put (ci := 3) (v := .int (nI 0)) (ty := .int) (C := RX3) (T := TX3) (N := 11) hx hb hts hiX3 tyX3 tyX3_ok nmX3 hown hN hE (S_4f rfl hm1 hm2 rfl) rfl 0 (by decide) (hts (.fieldLink RX3 31 "SealedCupboardsModel" "thrown" "I") (by decide +kernel)) (fun _ h9 => h9) rfl (by decide +kernel) rfl rfl (Nat.le_of_ble_eq_true rfl) dX3_swapped_2 (fun H locs hE => ?_)
  obtain ⟨kv1, hkv1⟩ : ∃ y99, y99 = va_up v 4 (upd (v 4) 0 (nI 0)) := ⟨_, rfl⟩
  have hE : mE G (mA ad (Sy cy ad cn ck v o) s.heap.size) s.heap ad (Sy cy ad cn ck kv1 o) H locs := by rw [hkv1]; exact (S_4u (upd_s _ _ _) ((upd_n _ _ (by decide)).trans hm1) ((upd_n _ _ (by decide)).trans hm2) ((upd_n _ _ (by decide)).trans rfl)) ▸ hE
  have kf2 : kv1 4 0 = nI 0 := by rw [hkv1, va_up_s, upd_s]
  have kf3 : kv1 4 1 = nI n := by rw [hkv1, va_up_s, upd_n _ _ (by decide)]; exact hm1
  have kf4 : kv1 4 2 = nI k := by rw [hkv1, va_up_s, upd_n _ _ (by decide)]; exact hm2
  have kf5 : kv1 4 10 = v 4 10 := by rw [hkv1, va_up_s, upd_n _ _ (by decide)]
  have ke6 : kv1 5 = f5 := by rw [hkv1, va_up_n _ _ (by omega)]; exact h5
  have ke7 : kv1 7 = f7 := by rw [hkv1, va_up_n _ _ (by omega)]; exact h7
  have ke8 : kv1 8 = f8 := by rw [hkv1, va_up_n _ _ (by omega)]; exact h8
  refine lv_aload_n hx hb dX3_swapped_5 rfl (lv_at hl 0 rfl) ?_
  refine lv_iload_n hx hb dX3_swapped_6 rfl (lv_at hl 1 rfl) ?_
  refine va_calli (va_runV (As := [.int (nI j)]) (rest := []) ⟨hx, hb, hml, hown, hts⟩ (c_X3_isSeal l G cy ad cn ck n k kv1 o hn hk _ kf3 kf4 j h_j) (cwV 1 hts gX3_swapped_X3_isSeal rfl rfl rfl (by decide +kernel) ⟨Nat.le_of_ble_eq_true rfl, Nat.le_of_ble_eq_true rfl⟩) (mP_V (r := (RX3, TX3, 11)) hN hE (S_4f kf2 kf3 kf4 kf5) rfl) rfl rfl hl.1 rfl (lv_room (Nat.le_of_ble_eq_true rfl)) dX3_swapped_7 ⟨Nat.le_of_ble_eq_true rfl, Nat.le_of_ble_eq_true rfl⟩) hE.2.2.2 (fun q _ h => mE_A hE q h) (mE_A hE) (fun r uq tq H locs ht hvm hw hB hz1 hk1 hS => ?_)
  obtain ⟨rfl, rfl⟩ := hw
  have hE : mE G (mA ad (Sy cy ad cn ck v o) s.heap.size) s.heap ad (Sy cy ad cn ck kv1 o) H locs := mE_call hE hB ht hS
  refine lv_if_ne (tgt := 19) hx hb dX3_swapped_10 (by decide) (fun c9 => ?_) (fun c9 => ?_)
  · skip
    have c9 : ¬ 1 = 0 := fun h9 => c9 ((mz_eq (by omega)).mpr h9)
    refine lv_aload_n hx hb dX3_swapped_19 rfl (lv_at hl 0 rfl) ?_
    refine va_get (D := G) (ci := 3) (v := .ref (ad 7)) (C := RX3) (T := TX3) (N := 11) hx hb hts hiX3 hown hN.1 (mE_P1 hE (S_4f kf2 kf3 kf4 kf5)) 0 rfl rfl 5 (by decide) (hts (.fieldLink RX3 16 "SealedCupboardsModel" "sealed" "[I") (by decide +kernel)) (fun _ h9 => h9) rfl dX3_swapped_20 ?_
    refine lv_iload_n hx hb dX3_swapped_23 rfl (lv_at hl 1 rfl) ?_
    refine mx_iald hx hb hN hE (S_7e ke7) (j := j) rfl (by omega) (by decide) dX3_swapped_24 ?_
    rw [hsc]
    refine lv_istore_n (lv' := [(2, .int (nI cu)), (0, .ref (ad 4)), (1, .int (nI j))]) hx hb dX3_swapped_25 rfl hl (by decide) rfl (fun ls hl => ?_)
    refine lv_aload_n hx hb dX3_swapped_26 rfl (lv_at hl 1 rfl) ?_
    refine lv_iload_n hx hb dX3_swapped_27 rfl (lv_at hl 0 rfl) ?_
    refine va_calli (va_runV (As := [.int (nI cu)]) (rest := []) ⟨hx, hb, hml, hown, hts⟩ (c_X3_root l G cy ad cn ck n k kv1 o hn hk _ kf3 kf4 cu h_cu ke6) (cwV 1 hts gX3_swapped_X3_root rfl rfl rfl (by decide +kernel) ⟨Nat.le_of_ble_eq_true rfl, Nat.le_of_ble_eq_true rfl⟩) (mP_V (r := (RX3, TX3, 11)) hN hE (S_4f kf2 kf3 kf4 kf5) rfl) rfl rfl hl.1 rfl (lv_room (Nat.le_of_ble_eq_true rfl)) dX3_swapped_28 ⟨Nat.le_of_ble_eq_true rfl, Nat.le_of_ble_eq_true rfl⟩) hE.2.2.2 (fun q _ h => mE_A hE q h) (mE_A hE) (fun r uq tq H locs ht hvm hw hB hz1 hk1 hS => ?_)
    obtain ⟨rfl, kv10, rfl, kq11⟩ := hw
    have hE : mE G (mA ad (Sy cy ad cn ck v o) s.heap.size) s.heap ad (Sy cy ad cn ck kv10 o) H locs := mE_call hE hB ht hS
    have ke12 : kv10 5 = f5 := (kq11.1 5 (by decide) (by decide) (by decide)).trans ke6
    have ke13 : kv10 7 = f7 := (kq11.1 7 (by decide) (by decide) (by decide)).trans ke7
    have ke14 : kv10 8 = f8 := (kq11.1 8 (by decide) (by decide) (by decide)).trans ke8
    have kf15 : kv10 4 0 = nI 0 := (kq11.2.1).trans kf2
    have kf16 : kv10 4 1 = nI n := (kq11.2.2.1).trans kf3
    have kf17 : kv10 4 2 = nI k := (kq11.2.2.2).trans kf4
    refine lv_aload_n hx hb dX3_swapped_31 rfl (lv_at hl 1 rfl) ?_
    refine va_get (D := G) (ci := 3) (v := .ref (ad 8)) (C := RX3) (T := TX3) (N := 11) hx hb hts hiX3 hown hN.1 (mE_P1 hE (S_4f kf15 kf16 kf17 rfl)) 0 rfl rfl 6 (by decide) (hts (.fieldLink RX3 19 "SealedCupboardsModel" "roots" "[I") (by decide +kernel)) (fun _ h9 => h9) rfl dX3_swapped_32 ?_
    refine lv_iload_n hx hb dX3_swapped_35 rfl (lv_at hl 2 rfl) ?_
    refine mx_iald hx hb hN hE (S_8e ke14) (j := j) rfl (by omega) (by decide) dX3_swapped_36 ?_
    refine lv_icmp_ne (tgt := 42) hx hb dX3_swapped_37 (by decide) (fun c18 => ?_) (fun c18 => ?_)
    · skip
      refine lv_iconst (v := nI 0) hx hb dX3_swapped_42 (by decide) ?_
      refine lv_istore_n (lv' := [(3, .int (nI 0)), (2, .int (nI cu)), (0, .ref (ad 4)), (1, .int (nI j))]) hx hb dX3_swapped_43 rfl hl (by decide) rfl (fun ls hl => ?_)
      refine mx_loop (β := Nat × (Nat → Nat → Int32)) (fun n9 (bb9 : Nat × (Nat → Nat → Int32)) H locs ls => (fun (a : Nat) (v9 : Nat → Nat → Int32) => n9 = 16 - a ∧ (a ≤ 16 ∧ mQT v v9 (nI 0) ∧ ∀ a' b', a' < b' → b' < 16 → (a' < a ∨ (a' = a ∧ b' < 0)) → ¬ mS (mExch (fun d => f5 (16 * cu + d)) a' b') 1 = (f8 j)) ∧ mE G (mA ad (Sy cy ad cn ck v o) s.heap.size) s.heap ad (Sy cy ad cn ck v9 o) H locs ∧ lv_has ls 6 [(3, .int (nI a)), (2, .int (nI cu)), (0, .ref (ad 4)), (1, .int (nI j))]) (bb9.1) (bb9.2)) ?_ (16 - 0) (0, kv10) _ _ _ ⟨rfl, ⟨by omega, ⟨fun w h4 h10 h11 => ((kq11.1 w h4 h10 h11).trans (show kv1 w = v w by rw [hkv1, va_up_n _ _ h4])), kf15, (kf16.trans hm1.symm), (kf17.trans hm2.symm)⟩, fun a' b' h1 h2 h3 => by omega⟩, hE, lv_sub hl [0, 1, 2, 3] rfl⟩
      intro n9 bb9 H locs ls hI ih19
      obtain ⟨a, v9⟩ := bb9
      obtain ⟨hn20, ⟨hle, hq9, hno⟩, hE, hl⟩ := hI
      have hE : mE G (mA ad (Sy cy ad cn ck v o) s.heap.size) s.heap ad (Sy cy ad cn ck v9 o) H locs := hE
      have hl : lv_has ls 6 [(3, .int (nI a)), (2, .int (nI cu)), (0, .ref (ad 4)), (1, .int (nI j))] := hl
      refine lv_iload_n hx hb dX3_swapped_44 rfl (lv_at hl 0 rfl) ?_
      refine lv_bipush (v := nI 16) hx hb dX3_swapped_45 (by decide) ?_
      refine mv_ge (tgt := 116) hx hb (by omega) (by omega) dX3_swapped_47 (by decide) (fun c21 => ?_) (fun c21 => ?_)
      · skip
        refine lv_iconst (v := (-1)) hx hb dX3_swapped_116 (by decide) ?_
        exact mx_iret hx hb hr hE hlocks ⟨by rw [if_neg c18]; exact Or.inr ⟨fun a' b' h1 h2 => hno a' b' h1 h2 (by omega), rfl⟩, v9, rfl, hq9⟩ dX3_swapped_117
      · skip
        refine lv_iload_n hx hb dX3_swapped_50 rfl (lv_at hl 0 rfl) ?_
        refine lv_iconst (v := nI 1) hx hb dX3_swapped_51 (by decide) ?_
        refine mv_iadd (z := nI (a + 1)) hx hb (nI_add _ _) dX3_swapped_52 ?_
        refine lv_istore (lv' := [(4, .int (nI (a + 1))), (3, .int (nI a)), (2, .int (nI cu)), (0, .ref (ad 4)), (1, .int (nI j))]) hx hb dX3_swapped_53 hl (by decide) rfl (fun ls hl => ?_)
        refine mx_loop (β := Nat × (Nat → Nat → Int32)) (fun n9 (bb9 : Nat × (Nat → Nat → Int32)) H locs ls => (fun (b : Nat) (v9 : Nat → Nat → Int32) => n9 = 16 - b ∧ ((a < b ∧ b ≤ 16) ∧ mQT v v9 (nI 0) ∧ ∀ a' b', a' < b' → b' < 16 → (a' < a ∨ (a' = a ∧ b' < b)) → ¬ mS (mExch (fun d => f5 (16 * cu + d)) a' b') 1 = (f8 j)) ∧ mE G (mA ad (Sy cy ad cn ck v o) s.heap.size) s.heap ad (Sy cy ad cn ck v9 o) H locs ∧ lv_has ls 6 [(4, .int (nI b)), (3, .int (nI a)), (2, .int (nI cu)), (0, .ref (ad 4)), (1, .int (nI j))]) (bb9.1) (bb9.2)) ?_ (16 - (a + 1)) (a + 1, v9) _ _ _ ⟨rfl, ⟨by omega, ⟨fun w h4 h10 h11 => (hq9.1 w h4 h10 h11), hq9.2.1, ((hq9.2.2.1.trans hm1).trans hm1.symm), ((hq9.2.2.2.trans hm2).trans hm2.symm)⟩, fun a' b' h1 h2 h3 => hno a' b' h1 h2 (by omega)⟩, hE, lv_sub hl [0, 1, 2, 3, 4] rfl⟩
        intro n9 bb9 H locs ls hI ih22
        obtain ⟨b, v9⟩ := bb9
        obtain ⟨hn23, ⟨hle2, hq9, hno2⟩, hE, hl⟩ := hI
        have hE : mE G (mA ad (Sy cy ad cn ck v o) s.heap.size) s.heap ad (Sy cy ad cn ck v9 o) H locs := hE
        have hl : lv_has ls 6 [(4, .int (nI b)), (3, .int (nI a)), (2, .int (nI cu)), (0, .ref (ad 4)), (1, .int (nI j))] := hl
        refine lv_iload hx hb dX3_swapped_55 (lv_at hl 0 rfl) ?_
        refine lv_bipush (v := nI 16) hx hb dX3_swapped_57 (by decide) ?_
        refine mv_ge (tgt := 110) hx hb (by omega) (by omega) dX3_swapped_59 (by decide) (fun c24 => ?_) (fun c24 => ?_)
        · skip
          refine lv_iinc (v := nI (a + 1)) (lv' := [(3, .int (nI (a + 1))), (4, .int (nI b)), (2, .int (nI cu)), (0, .ref (ad 4)), (1, .int (nI j))]) hx hb dX3_swapped_110 hl (k := 1) rfl (nI_add _ _) (by decide) rfl (fun ls hl => ?_)
          refine lv_goto (tgt := 44) hx hb dX3_swapped_113 (by decide) ?_
          exact ih19 (16 - (a + 1)) (a + 1, v9) _ _ _ (by rw [hn20]; omega) ⟨rfl, ⟨by omega, ⟨fun w h4 h10 h11 => (hq9.1 w h4 h10 h11), hq9.2.1, ((hq9.2.2.1.trans hm1).trans hm1.symm), ((hq9.2.2.2.trans hm2).trans hm2.symm)⟩, fun a' b' h1 h2 h3 => hno2 a' b' h1 h2 (by omega)⟩, hE, lv_sub hl [0, 2, 3, 4] rfl⟩
        · skip
          refine lv_aload_n hx hb dX3_swapped_62 rfl (lv_at hl 3 rfl) ?_
          refine lv_iload_n hx hb dX3_swapped_63 rfl (lv_at hl 2 rfl) ?_
          refine lv_iload_n hx hb dX3_swapped_64 rfl (lv_at hl 1 rfl) ?_
          refine lv_iload hx hb dX3_swapped_65 (lv_at hl 0 rfl) ?_
          refine va_callv (va_runV (As := [.int (nI cu), .int (nI a), .int (nI b)]) (rest := []) ⟨hx, hb, hml, hown, hts⟩ (c_X3_exchange l G cy ad cn ck n k v9 o hn hk _ (hq9.2.2.1.trans hm1) (hq9.2.2.2.trans hm2) cu a b h_cu (by omega) (by omega) ((hq9.1 5 (by decide) (by decide) (by decide)).trans h5)) (cwV 3 hts gX3_swapped_X3_exchange rfl rfl rfl (by decide +kernel) ⟨Nat.le_of_ble_eq_true rfl, Nat.le_of_ble_eq_true rfl⟩) (mP_V (r := (RX3, TX3, 11)) hN hE (S_4f hq9.2.1 (hq9.2.2.1.trans hm1) (hq9.2.2.2.trans hm2) rfl) rfl) rfl rfl hl.1 rfl (lv_room (Nat.le_of_ble_eq_true rfl)) dX3_swapped_67 ⟨Nat.le_of_ble_eq_true rfl, Nat.le_of_ble_eq_true rfl⟩) hE.2.2.2 (fun q _ h => mE_A hE q h) (mE_A hE) (fun uq tq H locs ht hvm hw hB hz1 hk1 hS => ?_)
          subst hw
          have hE : mE G (mA ad (Sy cy ad cn ck v o) s.heap.size) s.heap ad (Sy cy ad cn ck (va_up v9 5 (mX5 f5 cu a b)) o) H locs := mE_call hE hB ht hS
          obtain ⟨kv25, hkv25⟩ : ∃ y99, y99 = va_up v9 5 (mX5 f5 cu a b) := ⟨_, rfl⟩
          have hE : mE G (mA ad (Sy cy ad cn ck v o) s.heap.size) s.heap ad (Sy cy ad cn ck kv25 o) H locs := by rw [hkv25]; exact hE
          have ke26 : kv25 7 = f7 := by rw [hkv25, va_up_n _ _ (by omega)]; exact ((hq9.1 7 (by decide) (by decide) (by decide)).trans h7)
          have ke27 : kv25 8 = f8 := by rw [hkv25, va_up_n _ _ (by omega)]; exact ((hq9.1 8 (by decide) (by decide) (by decide)).trans h8)
          have ke28 : kv25 5 = (mX5 f5 cu a b) := by rw [hkv25, va_up_s]
          have kf29 : kv25 4 0 = nI 0 := by rw [hkv25, va_up_n _ _ (by omega)]; exact hq9.2.1
          have kf30 : kv25 4 1 = nI n := by rw [hkv25, va_up_n _ _ (by omega)]; exact (hq9.2.2.1.trans hm1)
          have kf31 : kv25 4 2 = nI k := by rw [hkv25, va_up_n _ _ (by omega)]; exact (hq9.2.2.2.trans hm2)
          have kf32 : kv25 4 10 = v9 4 10 := by rw [hkv25, va_up_n _ _ (by omega)]
          refine lv_aload_n hx hb dX3_swapped_70 rfl (lv_at hl 3 rfl) ?_
          refine lv_iload_n hx hb dX3_swapped_71 rfl (lv_at hl 2 rfl) ?_
          refine va_calli (va_runV (As := [.int (nI cu)]) (rest := []) ⟨hx, hb, hml, hown, hts⟩ (c_X3_root l G cy ad cn ck n k kv25 o hn hk _ kf30 kf31 cu h_cu ke28) (cwV 1 hts gX3_swapped_X3_root rfl rfl rfl (by decide +kernel) ⟨Nat.le_of_ble_eq_true rfl, Nat.le_of_ble_eq_true rfl⟩) (mP_V (r := (RX3, TX3, 11)) hN hE (S_4f kf29 kf30 kf31 kf32) rfl) rfl rfl hl.1 rfl (lv_room (Nat.le_of_ble_eq_true rfl)) dX3_swapped_72 ⟨Nat.le_of_ble_eq_true rfl, Nat.le_of_ble_eq_true rfl⟩) hE.2.2.2 (fun q _ h => mE_A hE q h) (mE_A hE) (fun r uq tq H locs ht hvm hw hB hz1 hk1 hS => ?_)
          obtain ⟨rfl, kv33, rfl, kq34⟩ := hw
          have hE : mE G (mA ad (Sy cy ad cn ck v o) s.heap.size) s.heap ad (Sy cy ad cn ck kv33 o) H locs := mE_call hE hB ht hS
          have ke35 : kv33 5 = (mX5 f5 cu a b) := (kq34.1 5 (by decide) (by decide) (by decide)).trans ke28
          have ke36 : kv33 7 = f7 := (kq34.1 7 (by decide) (by decide) (by decide)).trans ke26
          have ke37 : kv33 8 = f8 := (kq34.1 8 (by decide) (by decide) (by decide)).trans ke27
          have kf38 : kv33 4 0 = nI 0 := (kq34.2.1).trans kf29
          have kf39 : kv33 4 1 = nI n := (kq34.2.2.1).trans kf30
          have kf40 : kv33 4 2 = nI k := (kq34.2.2.2).trans kf31
          refine lv_istore (lv' := [(5, .int (mS (fun d => (mX5 f5 cu a b) (16 * cu + d)) 1)), (4, .int (nI b)), (3, .int (nI a)), (2, .int (nI cu)), (0, .ref (ad 4)), (1, .int (nI j))]) hx hb dX3_swapped_75 hl (by decide) rfl (fun ls hl => ?_)
          refine lv_aload_n hx hb dX3_swapped_77 rfl (lv_at hl 4 rfl) ?_
          refine lv_iload_n hx hb dX3_swapped_78 rfl (lv_at hl 3 rfl) ?_
          refine lv_iload_n hx hb dX3_swapped_79 rfl (lv_at hl 2 rfl) ?_
          refine lv_iload hx hb dX3_swapped_80 (lv_at hl 1 rfl) ?_
          refine va_callv (va_runV (As := [.int (nI cu), .int (nI a), .int (nI b)]) (rest := []) ⟨hx, hb, hml, hown, hts⟩ (c_X3_exchange l G cy ad cn ck n k kv33 o hn hk _ kf39 kf40 cu a b h_cu (by omega) (by omega) ke35) (cwV 3 hts gX3_swapped_X3_exchange rfl rfl rfl (by decide +kernel) ⟨Nat.le_of_ble_eq_true rfl, Nat.le_of_ble_eq_true rfl⟩) (mP_V (r := (RX3, TX3, 11)) hN hE (S_4f kf38 kf39 kf40 rfl) rfl) rfl rfl hl.1 rfl (lv_room (Nat.le_of_ble_eq_true rfl)) dX3_swapped_82 ⟨Nat.le_of_ble_eq_true rfl, Nat.le_of_ble_eq_true rfl⟩) hE.2.2.2 (fun q _ h => mE_A hE q h) (mE_A hE) (fun uq tq H locs ht hvm hw hB hz1 hk1 hS => ?_)
          subst hw
          have hE : mE G (mA ad (Sy cy ad cn ck v o) s.heap.size) s.heap ad (Sy cy ad cn ck (va_up kv33 5 (mX5 (mX5 f5 cu a b) cu a b)) o) H locs := mE_call hE hB ht hS
          obtain ⟨kv41, hkv41⟩ : ∃ y99, y99 = va_up kv33 5 (mX5 (mX5 f5 cu a b) cu a b) := ⟨_, rfl⟩
          have hE : mE G (mA ad (Sy cy ad cn ck v o) s.heap.size) s.heap ad (Sy cy ad cn ck kv41 o) H locs := by rw [hkv41]; exact hE
          have ke42 : kv41 7 = f7 := by rw [hkv41, va_up_n _ _ (by omega)]; exact ke36
          have ke43 : kv41 8 = f8 := by rw [hkv41, va_up_n _ _ (by omega)]; exact ke37
          have ke44 : kv41 5 = (mX5 (mX5 f5 cu a b) cu a b) := by rw [hkv41, va_up_s]
          have kf45 : kv41 4 0 = nI 0 := by rw [hkv41, va_up_n _ _ (by omega)]; exact kf38
          have kf46 : kv41 4 1 = nI n := by rw [hkv41, va_up_n _ _ (by omega)]; exact kf39
          have kf47 : kv41 4 2 = nI k := by rw [hkv41, va_up_n _ _ (by omega)]; exact kf40
          have kf48 : kv41 4 10 = kv33 4 10 := by rw [hkv41, va_up_n _ _ (by omega)]
          refine lv_iload hx hb dX3_swapped_85 (lv_at hl 0 rfl) ?_
          refine lv_aload_n hx hb dX3_swapped_87 rfl (lv_at hl 4 rfl) ?_
          refine va_get (D := G) (ci := 3) (v := .ref (ad 8)) (C := RX3) (T := TX3) (N := 11) hx hb hts hiX3 hown hN.1 (mE_P1 hE (S_4f kf45 kf46 kf47 kf48)) 0 rfl rfl 6 (by decide) (hts (.fieldLink RX3 19 "SealedCupboardsModel" "roots" "[I") (by decide +kernel)) (fun _ h9 => h9) rfl dX3_swapped_88 ?_
          refine lv_iload_n hx hb dX3_swapped_91 rfl (lv_at hl 5 rfl) ?_
          refine mx_iald hx hb hN hE (S_8e ke43) (j := j) rfl (by omega) (by decide) dX3_swapped_92 ?_
          refine lv_icmp_ne (tgt := 104) hx hb dX3_swapped_93 (by decide) (fun c49 => ?_) (fun c49 => ?_)
          · skip
            refine lv_iinc (v := nI (b + 1)) (lv' := [(4, .int (nI (b + 1))), (5, .int (mS (fun d => (mX5 f5 cu a b) (16 * cu + d)) 1)), (3, .int (nI a)), (2, .int (nI cu)), (0, .ref (ad 4)), (1, .int (nI j))]) hx hb dX3_swapped_104 hl (k := 1) rfl (nI_add _ _) (by decide) rfl (fun ls hl => ?_)
            refine lv_goto (tgt := 55) hx hb dX3_swapped_107 (by decide) ?_
            exact ih22 (16 - (b + 1)) (b + 1, kv41) _ _ _ (by rw [hn23]; omega) ⟨rfl, ⟨by omega, ⟨fun w h4 h10 h11 => if hw5 : w = 5 then by rw [hw5]; exact (ke44.trans (mX5_twice f5 cu a b)).trans h5.symm else ((show kv41 w = kv33 w by rw [hkv41, va_up_n _ _ hw5]).trans ((kq34.1 w h4 h10 h11).trans ((show kv25 w = v9 w by rw [hkv25, va_up_n _ _ hw5]).trans (hq9.1 w h4 h10 h11)))), kf45, (kf46.trans hm1.symm), (kf47.trans hm2.symm)⟩, fun a' b' h1 h2 h3 => if h9 : a' = a ∧ b' = b then by rw [h9.1, h9.2, ← (show mS (fun d => mX5 f5 cu a b (16 * cu + d)) = mS (mExch (fun d => f5 (16 * cu + d)) a b) from congrArg mS (funext (fun d => mX5_row f5 cu a b d)))]; exact c49 else hno2 a' b' h1 h2 (by omega)⟩, hE, lv_sub hl [0, 2, 3, 4, 5] rfl⟩
          · skip
            refine lv_bipush (v := nI 16) hx hb dX3_swapped_96 (by decide) ?_
            refine lv_iload_n hx hb dX3_swapped_98 rfl (lv_at hl 2 rfl) ?_
            refine mv_imul (z := nI (16 * a)) hx hb (pk_mul _ _) dX3_swapped_99 ?_
            refine lv_iload hx hb dX3_swapped_100 (lv_at hl 1 rfl) ?_
            refine mv_iadd (z := nI ((16 * a) + b)) hx hb (nI_add _ _) dX3_swapped_102 ?_
            exact mx_iret hx hb hr hE hlocks ⟨by rw [if_neg c18]; exact Or.inl ⟨a, b, by omega, by omega, by rw [← (show mS (fun d => mX5 f5 cu a b (16 * cu + d)) = mS (mExch (fun d => f5 (16 * cu + d)) a b) from congrArg mS (funext (fun d => mX5_row f5 cu a b d)))]; exact c49, fun a' b' h1 h2 h3 => hno2 a' b' h1 h2 h3, rfl⟩, kv41, rfl, ⟨fun w h4 h10 h11 => if hw5 : w = 5 then by rw [hw5]; exact (ke44.trans (mX5_twice f5 cu a b)).trans h5.symm else ((show kv41 w = kv33 w by rw [hkv41, va_up_n _ _ hw5]).trans ((kq34.1 w h4 h10 h11).trans ((show kv25 w = v9 w by rw [hkv25, va_up_n _ _ hw5]).trans (hq9.1 w h4 h10 h11)))), kf45, (kf46.trans hm1.symm), (kf47.trans hm2.symm)⟩⟩ dX3_swapped_103
    · skip
      refine lv_iconst (v := (-1)) hx hb dX3_swapped_40 (by decide) ?_
      exact mx_iret hx hb hr hE hlocks ⟨by rw [if_pos c18], ⟨kv10, rfl, fun w h4 h10 h11 => ((kq11.1 w h4 h10 h11).trans (show kv1 w = v w by rw [hkv1, va_up_n _ _ h4])), kf15, (kf16.trans hm1.symm), (kf17.trans hm2.symm)⟩⟩ dX3_swapped_41
  · skip
    have c9 := (mz_eq (by omega)).mp c9
    exfalso; omega

set_option maxHeartbeats 4000000 in
set_option maxRecDepth 100000 in
/-- swapped -/
theorem x_X3_swapped1 (l : Launch) (G : va_G) (cy : Nat → ClassId) (ad : Nat → Nat) (cn ck n k : Nat) (v : Nat → Nat → Int32) (o : Nat → Int64) (hn : n ≤ 6) (hk : k ≤ 20) (sz : Nat) (hm1 : v 4 1 = nI n) (hm2 : v 4 2 = nI k) (x : Int32) (hbad : x < 0 ∨ nI k ≤ x) : mMi l yX3_swapped wsX3_swapped ({ frames := 10, cells := 0, slots := 0, locals := 220 }) G cy ad (Sy cy ad cn ck v o) sz [.ref (ad 4), .int x] 0 0 (fun (r : Int32) u => r = nI 0 ∧ ∃ v' : Nat → Nat → Int32, u = (ad, Sy cy ad cn ck v' o) ∧ mQT v v' (nI 1)) := by
  refine Met.ofW (cc := cX3_swapped) (maxL := 6) (ret := (some .int)) (by decide) rfl ?_
  intro p e s m args below meth c s₁ B hml hv
  obtain ⟨rfl, hv⟩ := hv
  have hsz := hv.1
  subst hsz
  have hN := hv.2.2
  have hE := mP_E hv
  have hx := B.exec
  have hb := B.bytes
  have hr := B.returns
  have hts := atoms_spec (ws := wsX3_swapped) B.pre
  have hown : s.vm.findClass RX3 = some m.cls := findClass_of_methodNamed B.named
  have hlocks := B.notSynchronized
  have hiX3 : ∀ w ∈ wsX30, w ∈ wsX3_swapped := by decide +kernel
  have hl := lv_entry ([.ref (ad 4), .int x]) (n := 6) (Nat.le_of_ble_eq_true rfl)
  rw [lg_entry_eq]
  generalize (lg_sl ([.ref (ad 4), .int x]) ++ List.replicate (6 - (lg_sl ([.ref (ad 4), .int x])).length) Slot.unset).toArray = ls at hl ⊢
  have hl : lv_has ls 6 [(0, .ref (ad 4)), (1, .int x)] := hl
  refine lv_aload_n hx hb dX3_swapped_0 rfl (lv_at hl 0 rfl) ?_
  refine lv_iconst (v := nI 0) hx hb dX3_swapped_1 (by decide) ?_
  refine mx_put (ci := 3) (v := .int (nI 0)) (ty := .int) (C := RX3) (T := TX3) (N := 11) hx hb hts hiX3 tyX3 tyX3_ok nmX3 hown hN hE (S_4f rfl hm1 hm2 rfl) rfl 0 (by decide) (hts (.fieldLink RX3 31 "SealedCupboardsModel" "thrown" "I") (by decide +kernel)) (fun _ h9 => h9) rfl (by decide +kernel) rfl rfl (Nat.le_of_ble_eq_true rfl) dX3_swapped_2 (fun H locs hE => ?_)
  obtain ⟨kv1, hkv1⟩ : ∃ y99, y99 = va_up v 4 (upd (v 4) 0 (nI 0)) := ⟨_, rfl⟩
  have hE : mE G (mA ad (Sy cy ad cn ck v o) s.heap.size) s.heap ad (Sy cy ad cn ck kv1 o) H locs := by rw [hkv1]; exact (S_4u (upd_s _ _ _) ((upd_n _ _ (by decide)).trans hm1) ((upd_n _ _ (by decide)).trans hm2) ((upd_n _ _ (by decide)).trans rfl)) ▸ hE
  have kf2 : kv1 4 0 = nI 0 := by rw [hkv1, va_up_s, upd_s]
  have kf3 : kv1 4 1 = nI n := by rw [hkv1, va_up_s, upd_n _ _ (by decide)]; exact hm1
  have kf4 : kv1 4 2 = nI k := by rw [hkv1, va_up_s, upd_n _ _ (by decide)]; exact hm2
  have kf5 : kv1 4 10 = v 4 10 := by rw [hkv1, va_up_s, upd_n _ _ (by decide)]
  refine lv_aload_n hx hb dX3_swapped_5 rfl (lv_at hl 0 rfl) ?_
  refine lv_iload_n hx hb dX3_swapped_6 rfl (lv_at hl 1 rfl) ?_
  refine va_calli (va_runV (As := [.int x]) (rest := []) ⟨hx, hb, hml, hown, hts⟩ (x_X3_isSeal l G cy ad cn ck n k kv1 o hn hk _ kf3 kf4 x hbad) (cwV 1 hts gX3_swapped_X3_isSeal rfl rfl rfl (by decide +kernel) ⟨Nat.le_of_ble_eq_true rfl, Nat.le_of_ble_eq_true rfl⟩) (mP_V (r := (RX3, TX3, 11)) hN hE (S_4f kf2 kf3 kf4 kf5) rfl) rfl rfl hl.1 rfl (lv_room (Nat.le_of_ble_eq_true rfl)) dX3_swapped_7 ⟨Nat.le_of_ble_eq_true rfl, Nat.le_of_ble_eq_true rfl⟩) hE.2.2.2 (fun q _ h => mE_A hE q h) (mE_A hE) (fun r uq tq H locs ht hvm hw hB hz1 hk1 hS => ?_)
  obtain ⟨rfl, rfl⟩ := hw
  have hE : mE G (mA ad (Sy cy ad cn ck v o) s.heap.size) s.heap ad (Sy cy ad cn ck kv1 o) H locs := mE_call hE hB ht hS
  refine lv_if_ne (tgt := 19) hx hb dX3_swapped_10 (by decide) (fun c6 => ?_) (fun c6 => ?_)
  · skip
    have c6 : ¬ 0 = 0 := fun h9 => c6 ((mz_eq (by omega)).mpr h9)
    exfalso; omega
  · skip
    have c6 := (mz_eq (by omega)).mp c6
    refine lv_aload_n hx hb dX3_swapped_13 rfl (lv_at hl 0 rfl) ?_
    refine lv_iconst (v := nI 1) hx hb dX3_swapped_14 (by decide) ?_
    refine va_calli (va_runV (As := [.int (nI 1)]) (rest := []) ⟨hx, hb, hml, hown, hts⟩ (c_X3_fail l G cy ad cn ck n k kv1 o hn hk _ kf3 kf4 (nI 1)) (cwV 1 hts gX3_swapped_X3_fail rfl rfl rfl (by decide +kernel) ⟨Nat.le_of_ble_eq_true rfl, Nat.le_of_ble_eq_true rfl⟩) (mP_V (r := (RX3, TX3, 11)) hN hE (S_4f kf2 kf3 kf4 kf5) rfl) rfl rfl hl.1 rfl (lv_room (Nat.le_of_ble_eq_true rfl)) dX3_swapped_15 ⟨Nat.le_of_ble_eq_true rfl, Nat.le_of_ble_eq_true rfl⟩) hE.2.2.2 (fun q _ h => mE_A hE q h) (mE_A hE) (fun r uq tq H locs ht hvm hw hB hz1 hk1 hS => ?_)
    obtain ⟨rfl, kv7, rfl, kq8⟩ := hw
    have hE : mE G (mA ad (Sy cy ad cn ck v o) s.heap.size) s.heap ad (Sy cy ad cn ck kv7 o) H locs := mE_call hE hB ht hS
    have kf9 : kv7 4 0 = nI 1 := kq8.2.1
    have kf10 : kv7 4 1 = nI n := (kq8.2.2.1).trans kf3
    have kf11 : kv7 4 2 = nI k := (kq8.2.2.2).trans kf4
    exact mx_iret hx hb hr hE hlocks ⟨rfl, ⟨kv7, rfl, fun w h4 h10 h11 => ((kq8.1 w h4 h10 h11).trans (show kv1 w = v w by rw [hkv1, va_up_n _ _ h4])), kf9, (kf10.trans hm1.symm), (kf11.trans hm2.symm)⟩⟩ dX3_swapped_18
