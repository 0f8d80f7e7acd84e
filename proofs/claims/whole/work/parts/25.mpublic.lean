set_option maxHeartbeats 4000000 in
set_option maxRecDepth 100000 in
/-- put -/
theorem c_X3_put (l : Launch) (G : va_G) (cy : Nat → ClassId) (ad : Nat → Nat) (cn ck n k : Nat) (v : Nat → Nat → Int32) (o : Nat → Int64) (hn : n ≤ 6) (hk : k ≤ 20) (sz : Nat) (hm1 : v 4 1 = nI n) (hm2 : v 4 2 = nI k) (i d : Nat) (h_i : i < n) (hd : d < 16) (t9 : Nat) (ht9 : t9 < 10000) {f5 : Nat → Int32} (h5 : v 5 = f5) {f6 : Nat → Int32} (h6 : v 6 = f6) : mMi l yX3_put wsX3_put ({ frames := 9, cells := 0, slots := 0, locals := 180 }) G cy ad (Sy cy ad cn ck v o) sz [.ref (ad 4), .int (nI i), .int (nI d), .int (nI t9)] 0 0 (fun (r : Int32) u => r = f5 (16 * i + d) ∧ ∃ v' : Nat → Nat → Int32, u = (ad, Sy cy ad cn ck v' o) ∧ mQM v v' (nI 0) (upd f5 (16 * i + d) (nI t9)) (mL6 f5 f6 i d (nI t9))) := by
  refine Met.ofW (cc := cX3_put) (maxL := 5) (ret := (some .int)) (by decide) rfl ?_
  intro p e s m args below meth c s₁ B hml hv
  obtain ⟨rfl, hv⟩ := hv
  have hsz := hv.1
  subst hsz
  have hN := hv.2.2
  have hE := mP_E hv
  have hx := B.exec
  have hb := B.bytes
  have hr := B.returns
  have hts := atoms_spec (ws := wsX3_put) B.pre
  have hown : s.vm.findClass RX3 = some m.cls := findClass_of_methodNamed B.named
  have hlocks := B.notSynchronized
  have hiX3 : ∀ w ∈ wsX30, w ∈ wsX3_put := by decide +kernel
  have hl := lv_entry ([.ref (ad 4), .int (nI i), .int (nI d), .int (nI t9)]) (n := 5) (Nat.le_of_ble_eq_true rfl)
  rw [lg_entry_eq]
  generalize (lg_sl ([.ref (ad 4), .int (nI i), .int (nI d), .int (nI t9)]) ++ List.replicate (5 - (lg_sl ([.ref (ad 4), .int (nI i), .int (nI d), .int (nI t9)])).length) Slot.unset).toArray = ls at hl ⊢
  have hl : lv_has ls 5 [(0, .ref (ad 4)), (1, .int (nI i)), (2, .int (nI d)), (3, .int (nI t9))] := hl
  refine lv_aload_n hx hb dX3_put_0 rfl (lv_at hl 0 rfl) ?_
  refine lv_iconst (v := nI 0) hx hb dX3_put_1 (by decide) ?_
  refine mx_put (ci := 3) (v := .int (nI 0)) (ty := .int) (C := RX3) (T := TX3) (N := 11) hx hb hts hiX3 tyX3 tyX3_ok nmX3 hown hN hE (S_4f rfl hm1 hm2 rfl) rfl 0 (by decide) (hts (.fieldLink RX3 31 "SealedCupboardsModel" "thrown" "I") (by decide +kernel)) (fun _ h9 => h9) rfl (by decide +kernel) rfl rfl (Nat.le_of_ble_eq_true rfl) dX3_put_2 (fun H locs hE => ?_)
  obtain ⟨kv1, hkv1⟩ : ∃ y99, y99 = va_up v 4 (upd (v 4) 0 (nI 0)) := ⟨_, rfl⟩
  have hE : mE G (mA ad (Sy cy ad cn ck v o) s.heap.size) s.heap ad (Sy cy ad cn ck kv1 o) H locs := by rw [hkv1]; exact (S_4u (upd_s _ _ _) ((upd_n _ _ (by decide)).trans hm1) ((upd_n _ _ (by decide)).trans hm2) ((upd_n _ _ (by decide)).trans rfl)) ▸ hE
  have kf2 : kv1 4 0 = nI 0 := by rw [hkv1, va_up_s, upd_s]
  have kf3 : kv1 4 1 = nI n := by rw [hkv1, va_up_s, upd_n _ _ (by decide)]; exact hm1
  have kf4 : kv1 4 2 = nI k := by rw [hkv1, va_up_s, upd_n _ _ (by decide)]; exact hm2
  have kf5 : kv1 4 10 = v 4 10 := by rw [hkv1, va_up_s, upd_n _ _ (by decide)]
  have ke6 : kv1 5 = f5 := by rw [hkv1, va_up_n _ _ (by omega)]; exact h5
  have ke7 : kv1 6 = f6 := by rw [hkv1, va_up_n _ _ (by omega)]; exact h6
  refine lv_aload_n hx hb dX3_put_5 rfl (lv_at hl 0 rfl) ?_
  refine lv_iload_n hx hb dX3_put_6 rfl (lv_at hl 1 rfl) ?_
  refine va_calli (va_runV (As := [.int (nI i)]) (rest := []) ⟨hx, hb, hml, hown, hts⟩ (c_X3_isCupboard l G cy ad cn ck n k kv1 o hn hk _ kf3 kf4 i h_i) (cwV 1 hts gX3_put_X3_isCupboard rfl rfl rfl (by decide +kernel) ⟨Nat.le_of_ble_eq_true rfl, Nat.le_of_ble_eq_true rfl⟩) (mP_V (r := (RX3, TX3, 11)) hN hE (S_4f kf2 kf3 kf4 kf5) rfl) rfl rfl hl.1 rfl (lv_room (Nat.le_of_ble_eq_true rfl)) dX3_put_7 ⟨Nat.le_of_ble_eq_true rfl, Nat.le_of_ble_eq_true rfl⟩) hE.2.2.2 (fun q _ h => mE_A hE q h) (mE_A hE) (fun r uq tq H locs ht hvm hw hB hz1 hk1 hS => ?_)
  obtain ⟨rfl, rfl⟩ := hw
  have hE : mE G (mA ad (Sy cy ad cn ck v o) s.heap.size) s.heap ad (Sy cy ad cn ck kv1 o) H locs := mE_call hE hB ht hS
  refine lv_if_eq (tgt := 20) hx hb dX3_put_10 (by decide) (fun c8 => ?_) (fun c8 => ?_)
  · skip
    have c8 := (mz_eq (by omega)).mp c8
    exfalso; omega
  · skip
    have c8 : ¬ 1 = 0 := fun h9 => c8 ((mz_eq (by omega)).mpr h9)
    refine lv_iload_n hx hb dX3_put_13 rfl (lv_at hl 2 rfl) ?_
    refine va_calli (va_runS (As := [.int (nI d)]) (rest := []) ⟨hx, hb, hml, hown, hts⟩ (c_X3_isDrawer l G cy ad (Sy cy ad cn ck kv1 o) _ d (by omega)) (va_cwS 1 hts gX3_put_X3_isDrawer rfl rfl rfl (by decide +kernel) ⟨Nat.le_of_ble_eq_true rfl, Nat.le_of_ble_eq_true rfl⟩) (mP_S hN hE) rfl rfl hl.1 rfl (lv_room (Nat.le_of_ble_eq_true rfl)) dX3_put_14 ⟨Nat.le_of_ble_eq_true rfl, Nat.le_of_ble_eq_true rfl⟩) hE.2.2.2 (fun q _ h => mE_A hE q h) (mE_A hE) (fun r uq tq H locs ht hvm hw hB hz1 hk1 hS => ?_)
    obtain ⟨rfl, rfl⟩ := hw
    have hE : mE G (mA ad (Sy cy ad cn ck v o) s.heap.size) s.heap ad (Sy cy ad cn ck kv1 o) H locs := mE_call hE hB ht hS
    refine lv_if_ne (tgt := 26) hx hb dX3_put_17 (by decide) (fun c9 => ?_) (fun c9 => ?_)
    · skip
      have c9 : ¬ 1 = 0 := fun h9 => c9 ((mz_eq (by omega)).mpr h9)
      refine lv_iload_n hx hb dX3_put_26 rfl (lv_at hl 3 rfl) ?_
      refine lv_iconst (v := nI 0) hx hb dX3_put_27 (by decide) ?_
      refine lv_sipush (v := nI 9999) hx hb dX3_put_28 (by decide) ?_
      refine va_calli (va_runS (As := [.int (nI t9), .int (nI 0), .int (nI 9999)]) (rest := []) ⟨hx, hb, hml, hown, hts⟩ (c_X3_isIn l G cy ad (Sy cy ad cn ck kv1 o) _ t9 0 9999 (by omega) (by omega) (by omega)) (va_cwS 3 hts gX3_put_X3_isIn rfl rfl rfl (by decide +kernel) ⟨Nat.le_of_ble_eq_true rfl, Nat.le_of_ble_eq_true rfl⟩) (mP_S hN hE) rfl rfl hl.1 rfl (lv_room (Nat.le_of_ble_eq_true rfl)) dX3_put_31 ⟨Nat.le_of_ble_eq_true rfl, Nat.le_of_ble_eq_true rfl⟩) hE.2.2.2 (fun q _ h => mE_A hE q h) (mE_A hE) (fun r uq tq H locs ht hvm hw hB hz1 hk1 hS => ?_)
      obtain ⟨rfl, rfl⟩ := hw
      have hE : mE G (mA ad (Sy cy ad cn ck v o) s.heap.size) s.heap ad (Sy cy ad cn ck kv1 o) H locs := mE_call hE hB ht hS
      refine lv_if_ne (tgt := 43) hx hb dX3_put_34 (by decide) (fun c10 => ?_) (fun c10 => ?_)
      · skip
        have c10 : ¬ 1 = 0 := fun h9 => c10 ((mz_eq (by omega)).mpr h9)
        refine lv_aload_n hx hb dX3_put_43 rfl (lv_at hl 0 rfl) ?_
        refine lv_iload_n hx hb dX3_put_44 rfl (lv_at hl 1 rfl) ?_
        refine lv_iload_n hx hb dX3_put_45 rfl (lv_at hl 2 rfl) ?_
        refine va_calli (va_runV (As := [.int (nI i), .int (nI d)]) (rest := []) ⟨hx, hb, hml, hown, hts⟩ (c_X3_th l G cy ad cn ck n k kv1 o hn hk _ kf3 kf4 i d h_i (by omega) ke6) (cwV 2 hts gX3_put_X3_th rfl rfl rfl (by decide +kernel) ⟨Nat.le_of_ble_eq_true rfl, Nat.le_of_ble_eq_true rfl⟩) (mP_V (r := (RX3, TX3, 11)) hN hE (S_4f kf2 kf3 kf4 kf5) rfl) rfl rfl hl.1 rfl (lv_room (Nat.le_of_ble_eq_true rfl)) dX3_put_46 ⟨Nat.le_of_ble_eq_true rfl, Nat.le_of_ble_eq_true rfl⟩) hE.2.2.2 (fun q _ h => mE_A hE q h) (mE_A hE) (fun r uq tq H locs ht hvm hw hB hz1 hk1 hS => ?_)
        obtain ⟨rfl, rfl⟩ := hw
        have hE : mE G (mA ad (Sy cy ad cn ck v o) s.heap.size) s.heap ad (Sy cy ad cn ck kv1 o) H locs := mE_call hE hB ht hS
        refine lv_istore (lv' := [(4, .int (f5 (16 * i + d))), (0, .ref (ad 4)), (1, .int (nI i)), (2, .int (nI d)), (3, .int (nI t9))]) hx hb dX3_put_49 hl (by decide) rfl (fun ls hl => ?_)
        refine lv_aload_n hx hb dX3_put_51 rfl (lv_at hl 1 rfl) ?_
        refine lv_iload_n hx hb dX3_put_52 rfl (lv_at hl 2 rfl) ?_
        refine lv_iload_n hx hb dX3_put_53 rfl (lv_at hl 3 rfl) ?_
        refine lv_iload_n hx hb dX3_put_54 rfl (lv_at hl 4 rfl) ?_
        refine va_calli (va_runV (As := [.int (nI i), .int (nI d), .int (nI t9)]) (rest := []) ⟨hx, hb, hml, hown, hts⟩ (c_X3_lay l G cy ad cn ck n k kv1 o hn hk _ kf3 kf4 i d (nI t9) h_i (by omega) ke6 ke7) (cwV 3 hts gX3_put_X3_lay rfl rfl rfl (by decide +kernel) ⟨Nat.le_of_ble_eq_true rfl, Nat.le_of_ble_eq_true rfl⟩) (mP_V (r := (RX3, TX3, 11)) hN hE (S_4f kf2 kf3 kf4 kf5) rfl) rfl rfl hl.1 rfl (lv_room (Nat.le_of_ble_eq_true rfl)) dX3_put_55 ⟨Nat.le_of_ble_eq_true rfl, Nat.le_of_ble_eq_true rfl⟩) hE.2.2.2 (fun q _ h => mE_A hE q h) (mE_A hE) (fun r uq tq H locs ht hvm hw hB hz1 hk1 hS => ?_)
        obtain ⟨rfl, kv11, rfl, kq12⟩ := hw
        have hE : mE G (mA ad (Sy cy ad cn ck v o) s.heap.size) s.heap ad (Sy cy ad cn ck kv11 o) H locs := mE_call hE hB ht hS
        have ke13 : kv11 5 = (upd f5 (16 * i + d) (nI t9)) := kq12.2.2.2.2.1
        have ke14 : kv11 6 = (mL6 f5 f6 i d (nI t9)) := kq12.2.2.2.2.2
        have kf15 : kv11 4 0 = nI 0 := (kq12.2.1).trans kf2
        have kf16 : kv11 4 1 = nI n := (kq12.2.2.1).trans kf3
        have kf17 : kv11 4 2 = nI k := (kq12.2.2.2.1).trans kf4
        refine lv_pop hx hb dX3_put_58 rfl ?_
        refine lv_iload hx hb dX3_put_59 (lv_at hl 0 rfl) ?_
        exact mx_iret hx hb hr hE hlocks ⟨rfl, ⟨kv11, rfl, fun w h4 h5w h6w h10 h11 => ((kq12.1 w h4 h5w h6w h10 h11).trans (show kv1 w = v w by rw [hkv1, va_up_n _ _ h4])), kf15, (kf16.trans hm1.symm), (kf17.trans hm2.symm), ke13, ke14⟩⟩ dX3_put_61
      · skip
        have c10 := (mz_eq (by omega)).mp c10
        exfalso; omega
    · skip
      have c9 := (mz_eq (by omega)).mp c9
      exfalso; omega

set_option maxHeartbeats 4000000 in
set_option maxRecDepth 100000 in
/-- put -/
theorem x_X3_put1 (l : Launch) (G : va_G) (cy : Nat → ClassId) (ad : Nat → Nat) (cn ck n k : Nat) (v : Nat → Nat → Int32) (o : Nat → Int64) (hn : n ≤ 6) (hk : k ≤ 20) (sz : Nat) (hm1 : v 4 1 = nI n) (hm2 : v 4 2 = nI k) (x : Int32) (hbad : x < 0 ∨ nI n ≤ x) (y z : Int32) : mMi l yX3_put wsX3_put ({ frames := 9, cells := 0, slots := 0, locals := 180 }) G cy ad (Sy cy ad cn ck v o) sz [.ref (ad 4), .int x, .int y, .int z] 0 0 (fun (r : Int32) u => r = nI 0 ∧ ∃ v' : Nat → Nat → Int32, u = (ad, Sy cy ad cn ck v' o) ∧ mQT v v' (nI 1)) := by
  refine Met.ofW (cc := cX3_put) (maxL := 5) (ret := (some .int)) (by decide) rfl ?_
  intro p e s m args below meth c s₁ B hml hv
  obtain ⟨rfl, hv⟩ := hv
  have hsz := hv.1
  subst hsz
  have hN := hv.2.2
  have hE := mP_E hv
  have hx := B.exec
  have hb := B.bytes
  have hr := B.returns
  have hts := atoms_spec (ws := wsX3_put) B.pre
  have hown : s.vm.findClass RX3 = some m.cls := findClass_of_methodNamed B.named
  have hlocks := B.notSynchronized
  have hiX3 : ∀ w ∈ wsX30, w ∈ wsX3_put := by decide +kernel
  have hl := lv_entry ([.ref (ad 4), .int x, .int y, .int z]) (n := 5) (Nat.le_of_ble_eq_true rfl)
  rw [lg_entry_eq]
  generalize (lg_sl ([.ref (ad 4), .int x, .int y, .int z]) ++ List.replicate (5 - (lg_sl ([.ref (ad 4), .int x, .int y, .int z])).length) Slot.unset).toArray = ls at hl ⊢
  have hl : lv_has ls 5 [(0, .ref (ad 4)), (1, .int x), (2, .int y), (3, .int z)] := hl
  refine lv_aload_n hx hb dX3_put_0 rfl (lv_at hl 0 rfl) ?_
  refine lv_iconst (v := nI 0) hx hb dX3_put_1 (by decide) ?_
  refine mx_put (ci := 3) (v := .int (nI 0)) (ty := .int) (C := RX3) (T := TX3) (N := 11) hx hb hts hiX3 tyX3 tyX3_ok nmX3 hown hN hE (S_4f rfl hm1 hm2 rfl) rfl 0 (by decide) (hts (.fieldLink RX3 31 "SealedCupboardsModel" "thrown" "I") (by decide +kernel)) (fun _ h9 => h9) rfl (by decide +kernel) rfl rfl (Nat.le_of_ble_eq_true rfl) dX3_put_2 (fun H locs hE => ?_)
  obtain ⟨kv1, hkv1⟩ : ∃ y99, y99 = va_up v 4 (upd (v 4) 0 (nI 0)) := ⟨_, rfl⟩
  have hE : mE G (mA ad (Sy cy ad cn ck v o) s.heap.size) s.heap ad (Sy cy ad cn ck kv1 o) H locs := by rw [hkv1]; exact (S_4u (upd_s _ _ _) ((upd_n _ _ (by decide)).trans hm1) ((upd_n _ _ (by decide)).trans hm2) ((upd_n _ _ (by decide)).trans rfl)) ▸ hE
  have kf2 : kv1 4 0 = nI 0 := by rw [hkv1, va_up_s, upd_s]
  have kf3 : kv1 4 1 = nI n := by rw [hkv1, va_up_s, upd_n _ _ (by decide)]; exact hm1
  have kf4 : kv1 4 2 = nI k := by rw [hkv1, va_up_s, upd_n _ _ (by decide)]; exact hm2
  have kf5 : kv1 4 10 = v 4 10 := by rw [hkv1, va_up_s, upd_n _ _ (by decide)]
  refine lv_aload_n hx hb dX3_put_5 rfl (lv_at hl 0 rfl) ?_
  refine lv_iload_n hx hb dX3_put_6 rfl (lv_at hl 1 rfl) ?_
  refine va_calli (va_runV (As := [.int x]) (rest := []) ⟨hx, hb, hml, hown, hts⟩ (x_X3_isCupboard l G cy ad cn ck n k kv1 o hn hk _ kf3 kf4 x hbad) (cwV 1 hts gX3_put_X3_isCupboard rfl rfl rfl (by decide +kernel) ⟨Nat.le_of_ble_eq_true rfl, Nat.le_of_ble_eq_true rfl⟩) (mP_V (r := (RX3, TX3, 11)) hN hE (S_4f kf2 kf3 kf4 kf5) rfl) rfl rfl hl.1 rfl (lv_room (Nat.le_of_ble_eq_true rfl)) dX3_put_7 ⟨Nat.le_of_ble_eq_true rfl, Nat.le_of_ble_eq_true rfl⟩) hE.2.2.2 (fun q _ h => mE_A hE q h) (mE_A hE) (fun r uq tq H locs ht hvm hw hB hz1 hk1 hS => ?_)
  obtain ⟨rfl, rfl⟩ := hw
  have hE : mE G (mA ad (Sy cy ad cn ck v o) s.heap.size) s.heap ad (Sy cy ad cn ck kv1 o) H locs := mE_call hE hB ht hS
  refine lv_if_eq (tgt := 20) hx hb dX3_put_10 (by decide) (fun c6 => ?_) (fun c6 => ?_)
  · skip
    have c6 := (mz_eq (by omega)).mp c6
    refine lv_aload_n hx hb dX3_put_20 rfl (lv_at hl 0 rfl) ?_
    refine lv_iconst (v := nI 1) hx hb dX3_put_21 (by decide) ?_
    refine va_calli (va_runV (As := [.int (nI 1)]) (rest := []) ⟨hx, hb, hml, hown, hts⟩ (c_X3_fail l G cy ad cn ck n k kv1 o hn hk _ kf3 kf4 (nI 1)) (cwV 1 hts gX3_put_X3_fail rfl rfl rfl (by decide +kernel) ⟨Nat.le_of_ble_eq_true rfl, Nat.le_of_ble_eq_true rfl⟩) (mP_V (r := (RX3, TX3, 11)) hN hE (S_4f kf2 kf3 kf4 kf5) rfl) rfl rfl hl.1 rfl (lv_room (Nat.le_of_ble_eq_true rfl)) dX3_put_22 ⟨Nat.le_of_ble_eq_true rfl, Nat.le_of_ble_eq_true rfl⟩) hE.2.2.2 (fun q _ h => mE_A hE q h) (mE_A hE) (fun r uq tq H locs ht hvm hw hB hz1 hk1 hS => ?_)
    obtain ⟨rfl, kv7, rfl, kq8⟩ := hw
    have hE : mE G (mA ad (Sy cy ad cn ck v o) s.heap.size) s.heap ad (Sy cy ad cn ck kv7 o) H locs := mE_call hE hB ht hS
    have kf9 : kv7 4 0 = nI 1 := kq8.2.1
    have kf10 : kv7 4 1 = nI n := (kq8.2.2.1).trans kf3
    have kf11 : kv7 4 2 = nI k := (kq8.2.2.2).trans kf4
    exact mx_iret hx hb hr hE hlocks ⟨rfl, ⟨kv7, rfl, fun w h4 h10 h11 => ((kq8.1 w h4 h10 h11).trans (show kv1 w = v w by rw [hkv1, va_up_n _ _ h4])), kf9, (kf10.trans hm1.symm), (kf11.trans hm2.symm)⟩⟩ dX3_put_25
  · skip
    have c6 : ¬ 0 = 0 := fun h9 => c6 ((mz_eq (by omega)).mpr h9)
    exfalso; omega

set_option maxHeartbeats 4000000 in
set_option maxRecDepth 100000 in
/-- put -/
theorem x_X3_put2 (l : Launch) (G : va_G) (cy : Nat → ClassId) (ad : Nat → Nat) (cn ck n k : Nat) (v : Nat → Nat → Int32) (o : Nat → Int64) (hn : n ≤ 6) (hk : k ≤ 20) (sz : Nat) (hm1 : v 4 1 = nI n) (hm2 : v 4 2 = nI k) (i : Nat) (h_i : i < n) (x : Int32) (hbad : x < 0 ∨ nI 16 ≤ x) (z : Int32) : mMi l yX3_put wsX3_put ({ frames := 9, cells := 0, slots := 0, locals := 180 }) G cy ad (Sy cy ad cn ck v o) sz [.ref (ad 4), .int (nI i), .int x, .int z] 0 0 (fun (r : Int32) u => r = nI 0 ∧ ∃ v' : Nat → Nat → Int32, u = (ad, Sy cy ad cn ck v' o) ∧ mQT v v' (nI 1)) := by
  refine Met.ofW (cc := cX3_put) (maxL := 5) (ret := (some .int)) (by decide) rfl ?_
  intro p e s m args below meth c s₁ B hml hv
  obtain ⟨rfl, hv⟩ := hv
  have hsz := hv.1
  subst hsz
  have hN := hv.2.2
  have hE := mP_E hv
  have hx := B.exec
  have hb := B.bytes
  have hr := B.returns
  have hts := atoms_spec (ws := wsX3_put) B.pre
  have hown : s.vm.findClass RX3 = some m.cls := findClass_of_methodNamed B.named
  have hlocks := B.notSynchronized
  have hiX3 : ∀ w ∈ wsX30, w ∈ wsX3_put := by decide +kernel
  have hl := lv_entry ([.ref (ad 4), .int (nI i), .int x, .int z]) (n := 5) (Nat.le_of_ble_eq_true rfl)
  rw [lg_entry_eq]
  generalize (lg_sl ([.ref (ad 4), .int (nI i), .int x, .int z]) ++ List.replicate (5 - (lg_sl ([.ref (ad 4), .int (nI i), .int x, .int z])).length) Slot.unset).toArray = ls at hl ⊢
  have hl : lv_has ls 5 [(0, .ref (ad 4)), (1, .int (nI i)), (2, .int x), (3, .int z)] := hl
  refine lv_aload_n hx hb dX3_put_0 rfl (lv_at hl 0 rfl) ?_
  refine lv_iconst (v := nI 0) hx hb dX3_put_1 (by decide) ?_
  refine mx_put (ci := 3) (v := .int (nI 0)) (ty := .int) (C := RX3) (T := TX3) (N := 11) hx hb hts hiX3 tyX3 tyX3_ok nmX3 hown hN hE (S_4f rfl hm1 hm2 rfl) rfl 0 (by decide) (hts (.fieldLink RX3 31 "SealedCupboardsModel" "thrown" "I") (by decide +kernel)) (fun _ h9 => h9) rfl (by decide +kernel) rfl rfl (Nat.le_of_ble_eq_true rfl) dX3_put_2 (fun H locs hE => ?_)
  obtain ⟨kv1, hkv1⟩ : ∃ y99, y99 = va_up v 4 (upd (v 4) 0 (nI 0)) := ⟨_, rfl⟩
  have hE : mE G (mA ad (Sy cy ad cn ck v o) s.heap.size) s.heap ad (Sy cy ad cn ck kv1 o) H locs := by rw [hkv1]; exact (S_4u (upd_s _ _ _) ((upd_n _ _ (by decide)).trans hm1) ((upd_n _ _ (by decide)).trans hm2) ((upd_n _ _ (by decide)).trans rfl)) ▸ hE
  have kf2 : kv1 4 0 = nI 0 := by rw [hkv1, va_up_s, upd_s]
  have kf3 : kv1 4 1 = nI n := by rw [hkv1, va_up_s, upd_n _ _ (by decide)]; exact hm1
  have kf4 : kv1 4 2 = nI k := by rw [hkv1, va_up_s, upd_n _ _ (by decide)]; exact hm2
  have kf5 : kv1 4 10 = v 4 10 := by rw [hkv1, va_up_s, upd_n _ _ (by decide)]
  refine lv_aload_n hx hb dX3_put_5 rfl (lv_at hl 0 rfl) ?_
  refine lv_iload_n hx hb dX3_put_6 rfl (lv_at hl 1 rfl) ?_
  refine va_calli (va_runV (As := [.int (nI i)]) (rest := []) ⟨hx, hb, hml, hown, hts⟩ (c_X3_isCupboard l G cy ad cn ck n k kv1 o hn hk _ kf3 kf4 i h_i) (cwV 1 hts gX3_put_X3_isCupboard rfl rfl rfl (by decide +kernel) ⟨Nat.le_of_ble_eq_true rfl, Nat.le_of_ble_eq_true rfl⟩) (mP_V (r := (RX3, TX3, 11)) hN hE (S_4f kf2 kf3 kf4 kf5) rfl) rfl rfl hl.1 rfl (lv_room (Nat.le_of_ble_eq_true rfl)) dX3_put_7 ⟨Nat.le_of_ble_eq_true rfl, Nat.le_of_ble_eq_true rfl⟩) hE.2.2.2 (fun q _ h => mE_A hE q h) (mE_A hE) (fun r uq tq H locs ht hvm hw hB hz1 hk1 hS => ?_)
  obtain ⟨rfl, rfl⟩ := hw
  have hE : mE G (mA ad (Sy cy ad cn ck v o) s.heap.size) s.heap ad (Sy cy ad cn ck kv1 o) H locs := mE_call hE hB ht hS
  refine lv_if_eq (tgt := 20) hx hb dX3_put_10 (by decide) (fun c6 => ?_) (fun c6 => ?_)
  · skip
    have c6 := (mz_eq (by omega)).mp c6
    exfalso; omega
  · skip
    have c6 : ¬ 1 = 0 := fun h9 => c6 ((mz_eq (by omega)).mpr h9)
    refine lv_iload_n hx hb dX3_put_13 rfl (lv_at hl 2 rfl) ?_
    refine va_calli (va_runS (As := [.int x]) (rest := []) ⟨hx, hb, hml, hown, hts⟩ (x_X3_isDrawer l G cy ad (Sy cy ad cn ck kv1 o) _ x hbad) (va_cwS 1 hts gX3_put_X3_isDrawer rfl rfl rfl (by decide +kernel) ⟨Nat.le_of_ble_eq_true rfl, Nat.le_of_ble_eq_true rfl⟩) (mP_S hN hE) rfl rfl hl.1 rfl (lv_room (Nat.le_of_ble_eq_true rfl)) dX3_put_14 ⟨Nat.le_of_ble_eq_true rfl, Nat.le_of_ble_eq_true rfl⟩) hE.2.2.2 (fun q _ h => mE_A hE q h) (mE_A hE) (fun r uq tq H locs ht hvm hw hB hz1 hk1 hS => ?_)
    obtain ⟨rfl, rfl⟩ := hw
    have hE : mE G (mA ad (Sy cy ad cn ck v o) s.heap.size) s.heap ad (Sy cy ad cn ck kv1 o) H locs := mE_call hE hB ht hS
    refine lv_if_ne (tgt := 26) hx hb dX3_put_17 (by decide) (fun c7 => ?_) (fun c7 => ?_)
    · skip
      have c7 : ¬ 0 = 0 := fun h9 => c7 ((mz_eq (by omega)).mpr h9)
      exfalso; omega
    · skip
      have c7 := (mz_eq (by omega)).mp c7
      refine lv_aload_n hx hb dX3_put_20 rfl (lv_at hl 0 rfl) ?_
      refine lv_iconst (v := nI 1) hx hb dX3_put_21 (by decide) ?_
      refine va_calli (va_runV (As := [.int (nI 1)]) (rest := []) ⟨hx, hb, hml, hown, hts⟩ (c_X3_fail l G cy ad cn ck n k kv1 o hn hk _ kf3 kf4 (nI 1)) (cwV 1 hts gX3_put_X3_fail rfl rfl rfl (by decide +kernel) ⟨Nat.le_of_ble_eq_true rfl, Nat.le_of_ble_eq_true rfl⟩) (mP_V (r := (RX3, TX3, 11)) hN hE (S_4f kf2 kf3 kf4 kf5) rfl) rfl rfl hl.1 rfl (lv_room (Nat.le_of_ble_eq_true rfl)) dX3_put_22 ⟨Nat.le_of_ble_eq_true rfl, Nat.le_of_ble_eq_true rfl⟩) hE.2.2.2 (fun q _ h => mE_A hE q h) (mE_A hE) (fun r uq tq H locs ht hvm hw hB hz1 hk1 hS => ?_)
      obtain ⟨rfl, kv8, rfl, kq9⟩ := hw
      have hE : mE G (mA ad (Sy cy ad cn ck v o) s.heap.size) s.heap ad (Sy cy ad cn ck kv8 o) H locs := mE_call hE hB ht hS
      have kf10 : kv8 4 0 = nI 1 := kq9.2.1
      have kf11 : kv8 4 1 = nI n := (kq9.2.2.1).trans kf3
      have kf12 : kv8 4 2 = nI k := (kq9.2.2.2).trans kf4
      exact mx_iret hx hb hr hE hlocks ⟨rfl, ⟨kv8, rfl, fun w h4 h10 h11 => ((kq9.1 w h4 h10 h11).trans (show kv1 w = v w by rw [hkv1, va_up_n _ _ h4])), kf10, (kf11.trans hm1.symm), (kf12.trans hm2.symm)⟩⟩ dX3_put_25

set_option maxHeartbeats 4000000 in
set_option maxRecDepth 100000 in
/-- put -/
theorem x_X3_put3 (l : Launch) (G : va_G) (cy : Nat → ClassId) (ad : Nat → Nat) (cn ck n k : Nat) (v : Nat → Nat → Int32) (o : Nat → Int64) (hn : n ≤ 6) (hk : k ≤ 20) (sz : Nat) (hm1 : v 4 1 = nI n) (hm2 : v 4 2 = nI k) (i d : Nat) (h_i : i < n) (hd : d < 16) (x : Int32) (hbad : x < 0 ∨ nI 10000 ≤ x) : mMi l yX3_put wsX3_put ({ frames := 9, cells := 0, slots := 0, locals := 180 }) G cy ad (Sy cy ad cn ck v o) sz [.ref (ad 4), .int (nI i), .int (nI d), .int x] 0 0 (fun (r : Int32) u => r = nI 0 ∧ ∃ v' : Nat → Nat → Int32, u = (ad, Sy cy ad cn ck v' o) ∧ mQT v v' (nI 2)) := by
  refine Met.ofW (cc := cX3_put) (maxL := 5) (ret := (some .int)) (by decide) rfl ?_
  intro p e s m args below meth c s₁ B hml hv
  obtain ⟨rfl, hv⟩ := hv
  have hsz := hv.1
  subst hsz
  have hN := hv.2.2
  have hE := mP_E hv
  have hx := B.exec
  have hb := B.bytes
  have hr := B.returns
  have hts := atoms_spec (ws := wsX3_put) B.pre
  have hown : s.vm.findClass RX3 = some m.cls := findClass_of_methodNamed B.named
  have hlocks := B.notSynchronized
  have hiX3 : ∀ w ∈ wsX30, w ∈ wsX3_put := by decide +kernel
  have hl := lv_entry ([.ref (ad 4), .int (nI i), .int (nI d), .int x]) (n := 5) (Nat.le_of_ble_eq_true rfl)
  rw [lg_entry_eq]
  generalize (lg_sl ([.ref (ad 4), .int (nI i), .int (nI d), .int x]) ++ List.replicate (5 - (lg_sl ([.ref (ad 4), .int (nI i), .int (nI d), .int x])).length) Slot.unset).toArray = ls at hl ⊢
  have hl : lv_has ls 5 [(0, .ref (ad 4)), (1, .int (nI i)), (2, .int (nI d)), (3, .int x)] := hl
  refine lv_aload_n hx hb dX3_put_0 rfl (lv_at hl 0 rfl) ?_
  refine lv_iconst (v := nI 0) hx hb dX3_put_1 (by decide) ?_
  refine mx_put (ci := 3) (v := .int (nI 0)) (ty := .int) (C := RX3) (T := TX3) (N := 11) hx hb hts hiX3 tyX3 tyX3_ok nmX3 hown hN hE (S_4f rfl hm1 hm2 rfl) rfl 0 (by decide) (hts (.fieldLink RX3 31 "SealedCupboardsModel" "thrown" "I") (by decide +kernel)) (fun _ h9 => h9) rfl (by decide +kernel) rfl rfl (Nat.le_of_ble_eq_true rfl) dX3_put_2 (fun H locs hE => ?_)
  obtain ⟨kv1, hkv1⟩ : ∃ y99, y99 = va_up v 4 (upd (v 4) 0 (nI 0)) := ⟨_, rfl⟩
  have hE : mE G (mA ad (Sy cy ad cn ck v o) s.heap.size) s.heap ad (Sy cy ad cn ck kv1 o) H locs := by rw [hkv1]; exact (S_4u (upd_s _ _ _) ((upd_n _ _ (by decide)).trans hm1) ((upd_n _ _ (by decide)).trans hm2) ((upd_n _ _ (by decide)).trans rfl)) ▸ hE
  have kf2 : kv1 4 0 = nI 0 := by rw [hkv1, va_up_s, upd_s]
  have kf3 : kv1 4 1 = nI n := by rw [hkv1, va_up_s, upd_n _ _ (by decide)]; exact hm1
  have kf4 : kv1 4 2 = nI k := by rw [hkv1, va_up_s, upd_n _ _ (by decide)]; exact hm2
  have kf5 : kv1 4 10 = v 4 10 := by rw [hkv1, va_up_s, upd_n _ _ (by decide)]
  refine lv_aload_n hx hb dX3_put_5 rfl (lv_at hl 0 rfl) ?_
  refine lv_iload_n hx hb dX3_put_6 rfl (lv_at hl 1 rfl) ?_
  refine va_calli (va_runV (As := [.int (nI i)]) (rest := []) ⟨hx, hb, hml, hown, hts⟩ (c_X3_isCupboard l G cy ad cn ck n k kv1 o hn hk _ kf3 kf4 i h_i) (cwV 1 hts gX3_put_X3_isCupboard rfl rfl rfl (by decide +kernel) ⟨Nat.le_of_ble_eq_true rfl, Nat.le_of_ble_eq_true rfl⟩) (mP_V (r := (RX3, TX3, 11)) hN hE (S_4f kf2 kf3 kf4 kf5) rfl) rfl rfl hl.1 rfl (lv_room (Nat.le_of_ble_eq_true rfl)) dX3_put_7 ⟨Nat.le_of_ble_eq_true rfl, Nat.le_of_ble_eq_true rfl⟩) hE.2.2.2 (fun q _ h => mE_A hE q h) (mE_A hE) (fun r uq tq H locs ht hvm hw hB hz1 hk1 hS => ?_)
  obtain ⟨rfl, rfl⟩ := hw
  have hE : mE G (mA ad (Sy cy ad cn ck v o) s.heap.size) s.heap ad (Sy cy ad cn ck kv1 o) H locs := mE_call hE hB ht hS
  refine lv_if_eq (tgt := 20) hx hb dX3_put_10 (by decide) (fun c6 => ?_) (fun c6 => ?_)
  · skip
    have c6 := (mz_eq (by omega)).mp c6
    exfalso; omega
  · skip
    have c6 : ¬ 1 = 0 := fun h9 => c6 ((mz_eq (by omega)).mpr h9)
    refine lv_iload_n hx hb dX3_put_13 rfl (lv_at hl 2 rfl) ?_
    refine va_calli (va_runS (As := [.int (nI d)]) (rest := []) ⟨hx, hb, hml, hown, hts⟩ (c_X3_isDrawer l G cy ad (Sy cy ad cn ck kv1 o) _ d (by omega)) (va_cwS 1 hts gX3_put_X3_isDrawer rfl rfl rfl (by decide +kernel) ⟨Nat.le_of_ble_eq_true rfl, Nat.le_of_ble_eq_true rfl⟩) (mP_S hN hE) rfl rfl hl.1 rfl (lv_room (Nat.le_of_ble_eq_true rfl)) dX3_put_14 ⟨Nat.le_of_ble_eq_true rfl, Nat.le_of_ble_eq_true rfl⟩) hE.2.2.2 (fun q _ h => mE_A hE q h) (mE_A hE) (fun r uq tq H locs ht hvm hw hB hz1 hk1 hS => ?_)
    obtain ⟨rfl, rfl⟩ := hw
    have hE : mE G (mA ad (Sy cy ad cn ck v o) s.heap.size) s.heap ad (Sy cy ad cn ck kv1 o) H locs := mE_call hE hB ht hS
    refine lv_if_ne (tgt := 26) hx hb dX3_put_17 (by decide) (fun c7 => ?_) (fun c7 => ?_)
    · skip
      have c7 : ¬ 1 = 0 := fun h9 => c7 ((mz_eq (by omega)).mpr h9)
      refine lv_iload_n hx hb dX3_put_26 rfl (lv_at hl 3 rfl) ?_
      refine lv_iconst (v := nI 0) hx hb dX3_put_27 (by decide) ?_
      refine lv_sipush (v := nI 9999) hx hb dX3_put_28 (by decide) ?_
      refine va_calli (va_runS (As := [.int x, .int (nI 0), .int (nI 9999)]) (rest := []) ⟨hx, hb, hml, hown, hts⟩ (x_X3_isIn l G cy ad (Sy cy ad cn ck kv1 o) _ x (nI 0) (nI 9999) (mi_bad hbad rfl (by decide))) (va_cwS 3 hts gX3_put_X3_isIn rfl rfl rfl (by decide +kernel) ⟨Nat.le_of_ble_eq_true rfl, Nat.le_of_ble_eq_true rfl⟩) (mP_S hN hE) rfl rfl hl.1 rfl (lv_room (Nat.le_of_ble_eq_true rfl)) dX3_put_31 ⟨Nat.le_of_ble_eq_true rfl, Nat.le_of_ble_eq_true rfl⟩) hE.2.2.2 (fun q _ h => mE_A hE q h) (mE_A hE) (fun r uq tq H locs ht hvm hw hB hz1 hk1 hS => ?_)
      obtain ⟨rfl, rfl⟩ := hw
      have hE : mE G (mA ad (Sy cy ad cn ck v o) s.heap.size) s.heap ad (Sy cy ad cn ck kv1 o) H locs := mE_call hE hB ht hS
      refine lv_if_ne (tgt := 43) hx hb dX3_put_34 (by decide) (fun c8 => ?_) (fun c8 => ?_)
      · skip
        have c8 : ¬ 0 = 0 := fun h9 => c8 ((mz_eq (by omega)).mpr h9)
        exfalso; omega
      · skip
        have c8 := (mz_eq (by omega)).mp c8
        refine lv_aload_n hx hb dX3_put_37 rfl (lv_at hl 0 rfl) ?_
        refine lv_iconst (v := nI 2) hx hb dX3_put_38 (by decide) ?_
        refine va_calli (va_runV (As := [.int (nI 2)]) (rest := []) ⟨hx, hb, hml, hown, hts⟩ (c_X3_fail l G cy ad cn ck n k kv1 o hn hk _ kf3 kf4 (nI 2)) (cwV 1 hts gX3_put_X3_fail rfl rfl rfl (by decide +kernel) ⟨Nat.le_of_ble_eq_true rfl, Nat.le_of_ble_eq_true rfl⟩) (mP_V (r := (RX3, TX3, 11)) hN hE (S_4f kf2 kf3 kf4 kf5) rfl) rfl rfl hl.1 rfl (lv_room (Nat.le_of_ble_eq_true rfl)) dX3_put_39 ⟨Nat.le_of_ble_eq_true rfl, Nat.le_of_ble_eq_true rfl⟩) hE.2.2.2 (fun q _ h => mE_A hE q h) (mE_A hE) (fun r uq tq H locs ht hvm hw hB hz1 hk1 hS => ?_)
        obtain ⟨rfl, kv9, rfl, kq10⟩ := hw
        have hE : mE G (mA ad (Sy cy ad cn ck v o) s.heap.size) s.heap ad (Sy cy ad cn ck kv9 o) H locs := mE_call hE hB ht hS
        have kf11 : kv9 4 0 = nI 2 := kq10.2.1
        have kf12 : kv9 4 1 = nI n := (kq10.2.2.1).trans kf3
        have kf13 : kv9 4 2 = nI k := (kq10.2.2.2).trans kf4
        exact mx_iret hx hb hr hE hlocks ⟨rfl, ⟨kv9, rfl, fun w h4 h10 h11 => ((kq10.1 w h4 h10 h11).trans (show kv1 w = v w by rw [hkv1, va_up_n _ _ h4])), kf11, (kf12.trans hm1.symm), (kf13.trans hm2.symm)⟩⟩ dX3_put_42
    · skip
      have c7 := (mz_eq (by omega)).mp c7
      exfalso; omega

set_option maxHeartbeats 4000000 in
set_option maxRecDepth 100000 in
/-- sum -/
theorem c_X3_sum (l : Launch) (G : va_G) (cy : Nat → ClassId) (ad : Nat → Nat) (cn ck n k : Nat) (v : Nat → Nat → Int32) (o : Nat → Int64) (hn : n ≤ 6) (hk : k ≤ 20) (sz : Nat) (hm1 : v 4 1 = nI n) (hm2 : v 4 2 = nI k) (i : Nat) (h_i : i < n) (q : Nat) (hq1 : 1 ≤ q) (hq : q ≤ 31) {f5 : Nat → Int32} (h5 : v 5 = f5) : mMi l yX3_sum wsX3_sum ({ frames := 9, cells := 0, slots := 0, locals := 180 }) G cy ad (Sy cy ad cn ck v o) sz [.ref (ad 4), .int (nI i), .int (nI q)] 0 0 (fun (r : Int32) u => r = mS (fun d => f5 (16 * i + d)) q ∧ ∃ v' : Nat → Nat → Int32, u = (ad, Sy cy ad cn ck v' o) ∧ mQT v v' (nI 0)) := by
  refine Met.ofW (cc := cX3_sum) (maxL := 3) (ret := (some .int)) (by decide) rfl ?_
  intro p e s m args below meth c s₁ B hml hv
  obtain ⟨rfl, hv⟩ := hv
  have hsz := hv.1
  subst hsz
  have hN := hv.2.2
  have hE := mP_E hv
  have hx := B.exec
  have hb := B.bytes
  have hr := B.returns
  have hts := atoms_spec (ws := wsX3_sum) B.pre
  have hown : s.vm.findClass RX3 = some m.cls := findClass_of_methodNamed B.named
  have hlocks := B.notSynchronized
  have hiX3 : ∀ w ∈ wsX30, w ∈ wsX3_sum := by decide +kernel
  have hl := lv_entry ([.ref (ad 4), .int (nI i), .int (nI q)]) (n := 3) (Nat.le_of_ble_eq_true rfl)
  rw [lg_entry_eq]
  generalize (lg_sl ([.ref (ad 4), .int (nI i), .int (nI q)]) ++ List.replicate (3 - (lg_sl ([.ref (ad 4), .int (nI i), .int (nI q)])).length) Slot.unset).toArray = ls at hl ⊢
  have hl : lv_has ls 3 [(0, .ref (ad 4)), (1, .int (nI i)), (2, .int (nI q))] := hl
  refine lv_aload_n hx hb dX3_sum_0 rfl (lv_at hl 0 rfl) ?_
  refine lv_iconst (v := nI 0) hx hb dX3_sum_1 (by decide) ?_
  refine mx_put (ci := 3) (v := .int (nI 0)) (ty := .int) (C := RX3) (T := TX3) (N := 11) hx hb hts hiX3 tyX3 tyX3_ok nmX3 hown hN hE (S_4f rfl hm1 hm2 rfl) rfl 0 (by decide) (hts (.fieldLink RX3 31 "SealedCupboardsModel" "thrown" "I") (by decide +kernel)) (fun _ h9 => h9) rfl (by decide +kernel) rfl rfl (Nat.le_of_ble_eq_true rfl) dX3_sum_2 (fun H locs hE => ?_)
  obtain ⟨kv1, hkv1⟩ : ∃ y99, y99 = va_up v 4 (upd (v 4) 0 (nI 0)) := ⟨_, rfl⟩
  have hE : mE G (mA ad (Sy cy ad cn ck v o) s.heap.size) s.heap ad (Sy cy ad cn ck kv1 o) H locs := by rw [hkv1]; exact (S_4u (upd_s _ _ _) ((upd_n _ _ (by decide)).trans hm1) ((upd_n _ _ (by decide)).trans hm2) ((upd_n _ _ (by decide)).trans rfl)) ▸ hE
  have kf2 : kv1 4 0 = nI 0 := by rw [hkv1, va_up_s, upd_s]
  have kf3 : kv1 4 1 = nI n := by rw [hkv1, va_up_s, upd_n _ _ (by decide)]; exact hm1
  have kf4 : kv1 4 2 = nI k := by rw [hkv1, va_up_s, upd_n _ _ (by decide)]; exact hm2
  have kf5 : kv1 4 10 = v 4 10 := by rw [hkv1, va_up_s, upd_n _ _ (by decide)]
  have ke6 : kv1 5 = f5 := by rw [hkv1, va_up_n _ _ (by omega)]; exact h5
  refine lv_aload_n hx hb dX3_sum_5 rfl (lv_at hl 0 rfl) ?_
  refine lv_iload_n hx hb dX3_sum_6 rfl (lv_at hl 1 rfl) ?_
  refine va_calli (va_runV (As := [.int (nI i)]) (rest := []) ⟨hx, hb, hml, hown, hts⟩ (c_X3_isCupboard l G cy ad cn ck n k kv1 o hn hk _ kf3 kf4 i h_i) (cwV 1 hts gX3_sum_X3_isCupboard rfl rfl rfl (by decide +kernel) ⟨Nat.le_of_ble_eq_true rfl, Nat.le_of_ble_eq_true rfl⟩) (mP_V (r := (RX3, TX3, 11)) hN hE (S_4f kf2 kf3 kf4 kf5) rfl) rfl rfl hl.1 rfl (lv_room (Nat.le_of_ble_eq_true rfl)) dX3_sum_7 ⟨Nat.le_of_ble_eq_true rfl, Nat.le_of_ble_eq_true rfl⟩) hE.2.2.2 (fun q _ h => mE_A hE q h) (mE_A hE) (fun r uq tq H locs ht hvm hw hB hz1 hk1 hS => ?_)
  obtain ⟨rfl, rfl⟩ := hw
  have hE : mE G (mA ad (Sy cy ad cn ck v o) s.heap.size) s.heap ad (Sy cy ad cn ck kv1 o) H locs := mE_call hE hB ht hS
  refine lv_if_eq (tgt := 23) hx hb dX3_sum_10 (by decide) (fun c7 => ?_) (fun c7 => ?_)
  · skip
    have c7 := (mz_eq (by omega)).mp c7
    exfalso; omega
  · skip
    have c7 : ¬ 1 = 0 := fun h9 => c7 ((mz_eq (by omega)).mpr h9)
    refine lv_iload_n hx hb dX3_sum_13 rfl (lv_at hl 2 rfl) ?_
    refine lv_iconst (v := nI 1) hx hb dX3_sum_14 (by decide) ?_
    refine lv_bipush (v := nI 31) hx hb dX3_sum_15 (by decide) ?_
    refine va_calli (va_runS (As := [.int (nI q), .int (nI 1), .int (nI 31)]) (rest := []) ⟨hx, hb, hml, hown, hts⟩ (c_X3_isIn l G cy ad (Sy cy ad cn ck kv1 o) _ q 1 31 (by omega) (by omega) (by omega)) (va_cwS 3 hts gX3_sum_X3_isIn rfl rfl rfl (by decide +kernel) ⟨Nat.le_of_ble_eq_true rfl, Nat.le_of_ble_eq_true rfl⟩) (mP_S hN hE) rfl rfl hl.1 rfl (lv_room (Nat.le_of_ble_eq_true rfl)) dX3_sum_17 ⟨Nat.le_of_ble_eq_true rfl, Nat.le_of_ble_eq_true rfl⟩) hE.2.2.2 (fun q _ h => mE_A hE q h) (mE_A hE) (fun r uq tq H locs ht hvm hw hB hz1 hk1 hS => ?_)
    obtain ⟨rfl, rfl⟩ := hw
    have hE : mE G (mA ad (Sy cy ad cn ck v o) s.heap.size) s.heap ad (Sy cy ad cn ck kv1 o) H locs := mE_call hE hB ht hS
    refine lv_if_ne (tgt := 29) hx hb dX3_sum_20 (by decide) (fun c8 => ?_) (fun c8 => ?_)
    · skip
      have c8 : ¬ 1 = 0 := fun h9 => c8 ((mz_eq (by omega)).mpr h9)
      refine lv_aload_n hx hb dX3_sum_29 rfl (lv_at hl 0 rfl) ?_
      refine lv_iload_n hx hb dX3_sum_30 rfl (lv_at hl 1 rfl) ?_
      refine lv_aload_n hx hb dX3_sum_31 rfl (lv_at hl 0 rfl) ?_
      refine va_get (D := G) (ci := 3) (v := .ref (ad 10)) (C := RX3) (T := TX3) (N := 11) hx hb hts hiX3 hown hN.1 (mE_P1 hE (S_4f kf2 kf3 kf4 kf5)) 0 rfl rfl 8 (by decide) (hts (.fieldLink RX3 25 "SealedCupboardsModel" "sums" "[I") (by decide +kernel)) (fun _ h9 => h9) rfl dX3_sum_32 ?_
      refine va_callv (va_runV (As := [.int (nI i), .ref (ad 10)]) (rest := []) ⟨hx, hb, hml, hown, hts⟩ (c_X3_reckon l G cy ad cn ck n k kv1 o hn hk _ kf3 kf4 i 10 h_i (fun g => sy_10) (by decide) (by decide) ke6) (cwV 2 hts gX3_sum_X3_reckon rfl rfl rfl (by decide +kernel) ⟨Nat.le_of_ble_eq_true rfl, Nat.le_of_ble_eq_true rfl⟩) (mP_V (r := (RX3, TX3, 11)) hN hE (S_4f kf2 kf3 kf4 kf5) rfl) rfl rfl hl.1 rfl (lv_room (Nat.le_of_ble_eq_true rfl)) dX3_sum_35 ⟨Nat.le_of_ble_eq_true rfl, Nat.le_of_ble_eq_true rfl⟩) hE.2.2.2 (fun q _ h => mE_A hE q h) (mE_A hE) (fun uq tq H locs ht hvm hw hB hz1 hk1 hS => ?_)
      obtain ⟨kg9, rfl, kq10⟩ := hw
      have hE : mE G (mA ad (Sy cy ad cn ck v o) s.heap.size) s.heap ad (Sy cy ad cn ck (va_up kv1 10 kg9) o) H locs := mE_call hE hB ht hS
      obtain ⟨kv11, hkv11⟩ : ∃ y99, y99 = va_up kv1 10 kg9 := ⟨_, rfl⟩
      have hE : mE G (mA ad (Sy cy ad cn ck v o) s.heap.size) s.heap ad (Sy cy ad cn ck kv11 o) H locs := by rw [hkv11]; exact hE
      have ke12 : kv11 5 = f5 := by rw [hkv11, va_up_n _ _ (by omega)]; exact ke6
      have ke13 : kv11 10 = kg9 := by rw [hkv11, va_up_s]
      have kf14 : kv11 4 0 = nI 0 := by rw [hkv11, va_up_n _ _ (by omega)]; exact kf2
      have kf15 : kv11 4 1 = nI n := by rw [hkv11, va_up_n _ _ (by omega)]; exact kf3
      have kf16 : kv11 4 2 = nI k := by rw [hkv11, va_up_n _ _ (by omega)]; exact kf4
      have kf17 : kv11 4 10 = v 4 10 := by rw [hkv11, va_up_n _ _ (by omega)]; exact kf5
      refine lv_aload_n hx hb dX3_sum_38 rfl (lv_at hl 0 rfl) ?_
      refine va_get (D := G) (ci := 3) (v := .ref (ad 10)) (C := RX3) (T := TX3) (N := 11) hx hb hts hiX3 hown hN.1 (mE_P1 hE (S_4f kf14 kf15 kf16 kf17)) 0 rfl rfl 8 (by decide) (hts (.fieldLink RX3 25 "SealedCupboardsModel" "sums" "[I") (by decide +kernel)) (fun _ h9 => h9) rfl dX3_sum_39 ?_
      refine lv_iload_n hx hb dX3_sum_42 rfl (lv_at hl 2 rfl) ?_
      refine mx_iald hx hb hN hE (S_10e ke13) (j := q) rfl (by omega) (by decide) dX3_sum_43 ?_
      exact mx_iret hx hb hr hE hlocks ⟨mCon_S kq10 q (by omega) (by omega), ⟨kv11, rfl, fun w h4 h10 h11 => ((show kv11 w = kv1 w by rw [hkv11, va_up_n _ _ h10]).trans (show kv1 w = v w by rw [hkv1, va_up_n _ _ h4])), kf14, (kf15.trans hm1.symm), (kf16.trans hm2.symm)⟩⟩ dX3_sum_44
    · skip
      have c8 := (mz_eq (by omega)).mp c8
      exfalso; omega

set_option maxHeartbeats 4000000 in
set_option maxRecDepth 100000 in
/-- sum -/
theorem x_X3_sum1 (l : Launch) (G : va_G) (cy : Nat → ClassId) (ad : Nat → Nat) (cn ck n k : Nat) (v : Nat → Nat → Int32) (o : Nat → Int64) (hn : n ≤ 6) (hk : k ≤ 20) (sz : Nat) (hm1 : v 4 1 = nI n) (hm2 : v 4 2 = nI k) (x : Int32) (hbad : x < 0 ∨ nI n ≤ x) (y : Int32) : mMi l yX3_sum wsX3_sum ({ frames := 9, cells := 0, slots := 0, locals := 180 }) G cy ad (Sy cy ad cn ck v o) sz [.ref (ad 4), .int x, .int y] 0 0 (fun (r : Int32) u => r = nI 0 ∧ ∃ v' : Nat → Nat → Int32, u = (ad, Sy cy ad cn ck v' o) ∧ mQT v v' (nI 1)) := by
  refine Met.ofW (cc := cX3_sum) (maxL := 3) (ret := (some .int)) (by decide) rfl ?_
  intro p e s m args below meth c s₁ B hml hv
  obtain ⟨rfl, hv⟩ := hv
  have hsz := hv.1
  subst hsz
  have hN := hv.2.2
  have hE := mP_E hv
  have hx := B.exec
  have hb := B.bytes
  have hr := B.returns
  have hts := atoms_spec (ws := wsX3_sum) B.pre
  have hown : s.vm.findClass RX3 = some m.cls := findClass_of_methodNamed B.named
  have hlocks := B.notSynchronized
  have hiX3 : ∀ w ∈ wsX30, w ∈ wsX3_sum := by decide +kernel
  have hl := lv_entry ([.ref (ad 4), .int x, .int y]) (n := 3) (Nat.le_of_ble_eq_true rfl)
  rw [lg_entry_eq]
  generalize (lg_sl ([.ref (ad 4), .int x, .int y]) ++ List.replicate (3 - (lg_sl ([.ref (ad 4), .int x, .int y])).length) Slot.unset).toArray = ls at hl ⊢
  have hl : lv_has ls 3 [(0, .ref (ad 4)), (1, .int x), (2, .int y)] := hl
  refine lv_aload_n hx hb dX3_sum_0 rfl (lv_at hl 0 rfl) ?_
  refine lv_iconst (v := nI 0) hx hb dX3_sum_1 (by decide) ?_
  refine mx_put (ci := 3) (v := .int (nI 0)) (ty := .int) (C := RX3) (T := TX3) (N := 11) hx hb hts hiX3 tyX3 tyX3_ok nmX3 hown hN hE (S_4f rfl hm1 hm2 rfl) rfl 0 (by decide) (hts (.fieldLink RX3 31 "SealedCupboardsModel" "thrown" "I") (by decide +kernel)) (fun _ h9 => h9) rfl (by decide +kernel) rfl rfl (Nat.le_of_ble_eq_true rfl) dX3_sum_2 (fun H locs hE => ?_)
  obtain ⟨kv1, hkv1⟩ : ∃ y99, y99 = va_up v 4 (upd (v 4) 0 (nI 0)) := ⟨_, rfl⟩
  have hE : mE G (mA ad (Sy cy ad cn ck v o) s.heap.size) s.heap ad (Sy cy ad cn ck kv1 o) H locs := by rw [hkv1]; exact (S_4u (upd_s _ _ _) ((upd_n _ _ (by decide)).trans hm1) ((upd_n _ _ (by decide)).trans hm2) ((upd_n _ _ (by decide)).trans rfl)) ▸ hE
  have kf2 : kv1 4 0 = nI 0 := by rw [hkv1, va_up_s, upd_s]
  have kf3 : kv1 4 1 = nI n := by rw [hkv1, va_up_s, upd_n _ _ (by decide)]; exact hm1
  have kf4 : kv1 4 2 = nI k := by rw [hkv1, va_up_s, upd_n _ _ (by decide)]; exact hm2
  have kf5 : kv1 4 10 = v 4 10 := by rw [hkv1, va_up_s, upd_n _ _ (by decide)]
  refine lv_aload_n hx hb dX3_sum_5 rfl (lv_at hl 0 rfl) ?_
  refine lv_iload_n hx hb dX3_sum_6 rfl (lv_at hl 1 rfl) ?_
  refine va_calli (va_runV (As := [.int x]) (rest := []) ⟨hx, hb, hml, hown, hts⟩ (x_X3_isCupboard l G cy ad cn ck n k kv1 o hn hk _ kf3 kf4 x hbad) (cwV 1 hts gX3_sum_X3_isCupboard rfl rfl rfl (by decide +kernel) ⟨Nat.le_of_ble_eq_true rfl, Nat.le_of_ble_eq_true rfl⟩) (mP_V (r := (RX3, TX3, 11)) hN hE (S_4f kf2 kf3 kf4 kf5) rfl) rfl rfl hl.1 rfl (lv_room (Nat.le_of_ble_eq_true rfl)) dX3_sum_7 ⟨Nat.le_of_ble_eq_true rfl, Nat.le_of_ble_eq_true rfl⟩) hE.2.2.2 (fun q _ h => mE_A hE q h) (mE_A hE) (fun r uq tq H locs ht hvm hw hB hz1 hk1 hS => ?_)
  obtain ⟨rfl, rfl⟩ := hw
  have hE : mE G (mA ad (Sy cy ad cn ck v o) s.heap.size) s.heap ad (Sy cy ad cn ck kv1 o) H locs := mE_call hE hB ht hS
  refine lv_if_eq (tgt := 23) hx hb dX3_sum_10 (by decide) (fun c6 => ?_) (fun c6 => ?_)
  · skip
    have c6 := (mz_eq (by omega)).mp c6
    refine lv_aload_n hx hb dX3_sum_23 rfl (lv_at hl 0 rfl) ?_
    refine lv_iconst (v := nI 1) hx hb dX3_sum_24 (by decide) ?_
    refine va_calli (va_runV (As := [.int (nI 1)]) (rest := []) ⟨hx, hb, hml, hown, hts⟩ (c_X3_fail l G cy ad cn ck n k kv1 o hn hk _ kf3 kf4 (nI 1)) (cwV 1 hts gX3_sum_X3_fail rfl rfl rfl (by decide +kernel) ⟨Nat.le_of_ble_eq_true rfl, Nat.le_of_ble_eq_true rfl⟩) (mP_V (r := (RX3, TX3, 11)) hN hE (S_4f kf2 kf3 kf4 kf5) rfl) rfl rfl hl.1 rfl (lv_room (Nat.le_of_ble_eq_true rfl)) dX3_sum_25 ⟨Nat.le_of_ble_eq_true rfl, Nat.le_of_ble_eq_true rfl⟩) hE.2.2.2 (fun q _ h => mE_A hE q h) (mE_A hE) (fun r uq tq H locs ht hvm hw hB hz1 hk1 hS => ?_)
    obtain ⟨rfl, kv7, rfl, kq8⟩ := hw
    have hE : mE G (mA ad (Sy cy ad cn ck v o) s.heap.size) s.heap ad (Sy cy ad cn ck kv7 o) H locs := mE_call hE hB ht hS
    have kf9 : kv7 4 0 = nI 1 := kq8.2.1
    have kf10 : kv7 4 1 = nI n := (kq8.2.2.1).trans kf3
    have kf11 : kv7 4 2 = nI k := (kq8.2.2.2).trans kf4
    exact mx_iret hx hb hr hE hlocks ⟨rfl, ⟨kv7, rfl, fun w h4 h10 h11 => ((kq8.1 w h4 h10 h11).trans (show kv1 w = v w by rw [hkv1, va_up_n _ _ h4])), kf9, (kf10.trans hm1.symm), (kf11.trans hm2.symm)⟩⟩ dX3_sum_28
  · skip
    have c6 : ¬ 0 = 0 := fun h9 => c6 ((mz_eq (by omega)).mpr h9)
    exfalso; omega

set_option maxHeartbeats 4000000 in
set_option maxRecDepth 100000 in
/-- sum -/
theorem x_X3_sum2 (l : Launch) (G : va_G) (cy : Nat → ClassId) (ad : Nat → Nat) (cn ck n k : Nat) (v : Nat → Nat → Int32) (o : Nat → Int64) (hn : n ≤ 6) (hk : k ≤ 20) (sz : Nat) (hm1 : v 4 1 = nI n) (hm2 : v 4 2 = nI k) (i : Nat) (h_i : i < n) (x : Int32) (hbad : x < nI 1 ∨ nI 31 < x) : mMi l yX3_sum wsX3_sum ({ frames := 9, cells := 0, slots := 0, locals := 180 }) G cy ad (Sy cy ad cn ck v o) sz [.ref (ad 4), .int (nI i), .int x] 0 0 (fun (r : Int32) u => r = nI 0 ∧ ∃ v' : Nat → Nat → Int32, u = (ad, Sy cy ad cn ck v' o) ∧ mQT v v' (nI 1)) := by
  refine Met.ofW (cc := cX3_sum) (maxL := 3) (ret := (some .int)) (by decide) rfl ?_
  intro p e s m args below meth c s₁ B hml hv
  obtain ⟨rfl, hv⟩ := hv
  have hsz := hv.1
  subst hsz
  have hN := hv.2.2
  have hE := mP_E hv
  have hx := B.exec
  have hb := B.bytes
  have hr := B.returns
  have hts := atoms_spec (ws := wsX3_sum) B.pre
  have hown : s.vm.findClass RX3 = some m.cls := findClass_of_methodNamed B.named
  have hlocks := B.notSynchronized
  have hiX3 : ∀ w ∈ wsX30, w ∈ wsX3_sum := by decide +kernel
  have hl := lv_entry ([.ref (ad 4), .int (nI i), .int x]) (n := 3) (Nat.le_of_ble_eq_true rfl)
  rw [lg_entry_eq]
  generalize (lg_sl ([.ref (ad 4), .int (nI i), .int x]) ++ List.replicate (3 - (lg_sl ([.ref (ad 4), .int (nI i), .int x])).length) Slot.unset).toArray = ls at hl ⊢
  have hl : lv_has ls 3 [(0, .ref (ad 4)), (1, .int (nI i)), (2, .int x)] := hl
  refine lv_aload_n hx hb dX3_sum_0 rfl (lv_at hl 0 rfl) ?_
  refine lv_iconst (v := nI 0) hx hb dX3_sum_1 (by decide) ?_
  refine mx_put (ci := 3) (v := .int (nI 0)) (ty := .int) (C := RX3) (T := TX3) (N := 11) hx hb hts hiX3 tyX3 tyX3_ok nmX3 hown hN hE (S_4f rfl hm1 hm2 rfl) rfl 0 (by decide) (hts (.fieldLink RX3 31 "SealedCupboardsModel" "thrown" "I") (by decide +kernel)) (fun _ h9 => h9) rfl (by decide +kernel) rfl rfl (Nat.le_of_ble_eq_true rfl) dX3_sum_2 (fun H locs hE => ?_)
  obtain ⟨kv1, hkv1⟩ : ∃ y99, y99 = va_up v 4 (upd (v 4) 0 (nI 0)) := ⟨_, rfl⟩
  have hE : mE G (mA ad (Sy cy ad cn ck v o) s.heap.size) s.heap ad (Sy cy ad cn ck kv1 o) H locs := by rw [hkv1]; exact (S_4u (upd_s _ _ _) ((upd_n _ _ (by decide)).trans hm1) ((upd_n _ _ (by decide)).trans hm2) ((upd_n _ _ (by decide)).trans rfl)) ▸ hE
  have kf2 : kv1 4 0 = nI 0 := by rw [hkv1, va_up_s, upd_s]
  have kf3 : kv1 4 1 = nI n := by rw [hkv1, va_up_s, upd_n _ _ (by decide)]; exact hm1
  have kf4 : kv1 4 2 = nI k := by rw [hkv1, va_up_s, upd_n _ _ (by decide)]; exact hm2
  have kf5 : kv1 4 10 = v 4 10 := by rw [hkv1, va_up_s, upd_n _ _ (by decide)]
  refine lv_aload_n hx hb dX3_sum_5 rfl (lv_at hl 0 rfl) ?_
  refine lv_iload_n hx hb dX3_sum_6 rfl (lv_at hl 1 rfl) ?_
  refine va_calli (va_runV (As := [.int (nI i)]) (rest := []) ⟨hx, hb, hml, hown, hts⟩ (c_X3_isCupboard l G cy ad cn ck n k kv1 o hn hk _ kf3 kf4 i h_i) (cwV 1 hts gX3_sum_X3_isCupboard rfl rfl rfl (by decide +kernel) ⟨Nat.le_of_ble_eq_true rfl, Nat.le_of_ble_eq_true rfl⟩) (mP_V (r := (RX3, TX3, 11)) hN hE (S_4f kf2 kf3 kf4 kf5) rfl) rfl rfl hl.1 rfl (lv_room (Nat.le_of_ble_eq_true rfl)) dX3_sum_7 ⟨Nat.le_of_ble_eq_true rfl, Nat.le_of_ble_eq_true rfl⟩) hE.2.2.2 (fun q _ h => mE_A hE q h) (mE_A hE) (fun r uq tq H locs ht hvm hw hB hz1 hk1 hS => ?_)
  obtain ⟨rfl, rfl⟩ := hw
  have hE : mE G (mA ad (Sy cy ad cn ck v o) s.heap.size) s.heap ad (Sy cy ad cn ck kv1 o) H locs := mE_call hE hB ht hS
  refine lv_if_eq (tgt := 23) hx hb dX3_sum_10 (by decide) (fun c6 => ?_) (fun c6 => ?_)
  · skip
    have c6 := (mz_eq (by omega)).mp c6
    exfalso; omega
  · skip
    have c6 : ¬ 1 = 0 := fun h9 => c6 ((mz_eq (by omega)).mpr h9)
    refine lv_iload_n hx hb dX3_sum_13 rfl (lv_at hl 2 rfl) ?_
    refine lv_iconst (v := nI 1) hx hb dX3_sum_14 (by decide) ?_
    refine lv_bipush (v := nI 31) hx hb dX3_sum_15 (by decide) ?_
    refine va_calli (va_runS (As := [.int x, .int (nI 1), .int (nI 31)]) (rest := []) ⟨hx, hb, hml, hown, hts⟩ (x_X3_isIn l G cy ad (Sy cy ad cn ck kv1 o) _ x (nI 1) (nI 31) hbad) (va_cwS 3 hts gX3_sum_X3_isIn rfl rfl rfl (by decide +kernel) ⟨Nat.le_of_ble_eq_true rfl, Nat.le_of_ble_eq_true rfl⟩) (mP_S hN hE) rfl rfl hl.1 rfl (lv_room (Nat.le_of_ble_eq_true rfl)) dX3_sum_17 ⟨Nat.le_of_ble_eq_true rfl, Nat.le_of_ble_eq_true rfl⟩) hE.2.2.2 (fun q _ h => mE_A hE q h) (mE_A hE) (fun r uq tq H locs ht hvm hw hB hz1 hk1 hS => ?_)
    obtain ⟨rfl, rfl⟩ := hw
    have hE : mE G (mA ad (Sy cy ad cn ck v o) s.heap.size) s.heap ad (Sy cy ad cn ck kv1 o) H locs := mE_call hE hB ht hS
    refine lv_if_ne (tgt := 29) hx hb dX3_sum_20 (by decide) (fun c7 => ?_) (fun c7 => ?_)
    · skip
      have c7 : ¬ 0 = 0 := fun h9 => c7 ((mz_eq (by omega)).mpr h9)
      exfalso; omega
    · skip
      have c7 := (mz_eq (by omega)).mp c7
      refine lv_aload_n hx hb dX3_sum_23 rfl (lv_at hl 0 rfl) ?_
      refine lv_iconst (v := nI 1) hx hb dX3_sum_24 (by decide) ?_
      refine va_calli (va_runV (As := [.int (nI 1)]) (rest := []) ⟨hx, hb, hml, hown, hts⟩ (c_X3_fail l G cy ad cn ck n k kv1 o hn hk _ kf3 kf4 (nI 1)) (cwV 1 hts gX3_sum_X3_fail rfl rfl rfl (by decide +kernel) ⟨Nat.le_of_ble_eq_true rfl, Nat.le_of_ble_eq_true rfl⟩) (mP_V (r := (RX3, TX3, 11)) hN hE (S_4f kf2 kf3 kf4 kf5) rfl) rfl rfl hl.1 rfl (lv_room (Nat.le_of_ble_eq_true rfl)) dX3_sum_25 ⟨Nat.le_of_ble_eq_true rfl, Nat.le_of_ble_eq_true rfl⟩) hE.2.2.2 (fun q _ h => mE_A hE q h) (mE_A hE) (fun r uq tq H locs ht hvm hw hB hz1 hk1 hS => ?_)
      obtain ⟨rfl, kv8, rfl, kq9⟩ := hw
      have hE : mE G (mA ad (Sy cy ad cn ck v o) s.heap.size) s.heap ad (Sy cy ad cn ck kv8 o) H locs := mE_call hE hB ht hS
      have kf10 : kv8 4 0 = nI 1 := kq9.2.1
      have kf11 : kv8 4 1 = nI n := (kq9.2.2.1).trans kf3
      have kf12 : kv8 4 2 = nI k := (kq9.2.2.2).trans kf4
      exact mx_iret hx hb hr hE hlocks ⟨rfl, ⟨kv8, rfl, fun w h4 h10 h11 => ((kq9.1 w h4 h10 h11).trans (show kv1 w = v w by rw [hkv1, va_up_n _ _ h4])), kf10, (kf11.trans hm1.symm), (kf12.trans hm2.symm)⟩⟩ dX3_sum_28

set_option maxHeartbeats 4000000 in
set_option maxRecDepth 100000 in
/-- told -/
theorem c_X3_told (l : Launch) (G : va_G) (cy : Nat → ClassId) (ad : Nat → Nat) (cn ck n k : Nat) (v : Nat → Nat → Int32) (o : Nat → Int64) (hn : n ≤ 6) (hk : k ≤ 20) (sz : Nat) (hm1 : v 4 1 = nI n) (hm2 : v 4 2 = nI k) (i t9 : Nat) (h_i : i < n) (ht9 : t9 < 6) {b : Nat → Nat → Int32} (h5 : v 5 = b 5) (h6 : v 6 = b 6) (h7 : v 7 = b 7) (h8 : v 8 = b 8) : mMi l yX3_told wsX3_told ({ frames := 11, cells := 0, slots := 0, locals := 260 }) G cy ad (Sy cy ad cn ck v o) sz [.ref (ad 4), .int (nI i), .int (nI t9)] 0 0 (fun (r : Int32) u => r = mTold (mVw b) k i t9 ∧ ∃ v' : Nat → Nat → Int32, u = (ad, Sy cy ad cn ck v' o) ∧ mQT v v' (nI 0)) := by
  refine Met.ofW (cc := cX3_told) (maxL := 3) (ret := (some .int)) (by decide) rfl ?_
  intro p e s m args below meth c s₁ B hml hv
  obtain ⟨rfl, hv⟩ := hv
  have hsz := hv.1
  subst hsz
  have hN := hv.2.2
  have hE := mP_E hv
  have hx := B.exec
  have hb := B.bytes
  have hr := B.returns
  have hts := atoms_spec (ws := wsX3_told) B.pre
  have hown : s.vm.findClass RX3 = some m.cls := findClass_of_methodNamed B.named
  have hlocks := B.notSynchronized
  have hiX3 : ∀ w ∈ wsX30, w ∈ wsX3_told := by decide +kernel
  have hl := lv_entry ([.ref (ad 4), .int (nI i), .int (nI t9)]) (n := 3) (Nat.le_of_ble_eq_true rfl)
  rw [lg_entry_eq]
  generalize (lg_sl ([.ref (ad 4), .int (nI i), .int (nI t9)]) ++ List.replicate (3 - (lg_sl ([.ref (ad 4), .int (nI i), .int (nI t9)])).length) Slot.unset).toArray = ls at hl ⊢
  have hl : lv_has ls 3 [(0, .ref (ad 4)), (1, .int (nI i)), (2, .int (nI t9))] := hl
  refine lv_aload_n hx hb dX3_told_0 rfl (lv_at hl 0 rfl) ?_
  refine lv_iconst (v := nI 0) hx hb dX3_told_1 (by decide) ?_
  refine mx_put (ci := 3) (v := .int (nI 0)) (ty := .int) (C := RX3) (T := TX3) (N := 11) hx hb hts hiX3 tyX3 tyX3_ok nmX3 hown hN hE (S_4f rfl hm1 hm2 rfl) rfl 0 (by decide) (hts (.fieldLink RX3 31 "SealedCupboardsModel" "thrown" "I") (by decide +kernel)) (fun _ h9 => h9) rfl (by decide +kernel) rfl rfl (Nat.le_of_ble_eq_true rfl) dX3_told_2 (fun H locs hE => ?_)
  obtain ⟨kv1, hkv1⟩ : ∃ y99, y99 = va_up v 4 (upd (v 4) 0 (nI 0)) := ⟨_, rfl⟩
  have hE : mE G (mA ad (Sy cy ad cn ck v o) s.heap.size) s.heap ad (Sy cy ad cn ck kv1 o) H locs := by rw [hkv1]; exact (S_4u (upd_s _ _ _) ((upd_n _ _ (by decide)).trans hm1) ((upd_n _ _ (by decide)).trans hm2) ((upd_n _ _ (by decide)).trans rfl)) ▸ hE
  have kf2 : kv1 4 0 = nI 0 := by rw [hkv1, va_up_s, upd_s]
  have kf3 : kv1 4 1 = nI n := by rw [hkv1, va_up_s, upd_n _ _ (by decide)]; exact hm1
  have kf4 : kv1 4 2 = nI k := by rw [hkv1, va_up_s, upd_n _ _ (by decide)]; exact hm2
  have kf5 : kv1 4 10 = v 4 10 := by rw [hkv1, va_up_s, upd_n _ _ (by decide)]
  have ke6 : kv1 5 = b 5 := by rw [hkv1, va_up_n _ _ (by omega)]; exact h5
  have ke7 : kv1 6 = b 6 := by rw [hkv1, va_up_n _ _ (by omega)]; exact h6
  have ke8 : kv1 7 = b 7 := by rw [hkv1, va_up_n _ _ (by omega)]; exact h7
  have ke9 : kv1 8 = b 8 := by rw [hkv1, va_up_n _ _ (by omega)]; exact h8
  refine lv_aload_n hx hb dX3_told_5 rfl (lv_at hl 0 rfl) ?_
  refine lv_iload_n hx hb dX3_told_6 rfl (lv_at hl 1 rfl) ?_
  refine va_calli (va_runV (As := [.int (nI i)]) (rest := []) ⟨hx, hb, hml, hown, hts⟩ (c_X3_isCupboard l G cy ad cn ck n k kv1 o hn hk _ kf3 kf4 i h_i) (cwV 1 hts gX3_told_X3_isCupboard rfl rfl rfl (by decide +kernel) ⟨Nat.le_of_ble_eq_true rfl, Nat.le_of_ble_eq_true rfl⟩) (mP_V (r := (RX3, TX3, 11)) hN hE (S_4f kf2 kf3 kf4 kf5) rfl) rfl rfl hl.1 rfl (lv_room (Nat.le_of_ble_eq_true rfl)) dX3_told_7 ⟨Nat.le_of_ble_eq_true rfl, Nat.le_of_ble_eq_true rfl⟩) hE.2.2.2 (fun q _ h => mE_A hE q h) (mE_A hE) (fun r uq tq H locs ht hvm hw hB hz1 hk1 hS => ?_)
  obtain ⟨rfl, rfl⟩ := hw
  have hE : mE G (mA ad (Sy cy ad cn ck v o) s.heap.size) s.heap ad (Sy cy ad cn ck kv1 o) H locs := mE_call hE hB ht hS
  refine lv_if_eq (tgt := 31) hx hb dX3_told_10 (by decide) (fun c10 => ?_) (fun c10 => ?_)
  · skip
    have c10 := (mz_eq (by omega)).mp c10
    exfalso; omega
  · skip
    have c10 : ¬ 1 = 0 := fun h9 => c10 ((mz_eq (by omega)).mpr h9)
    refine lv_iload_n hx hb dX3_told_13 rfl (lv_at hl 2 rfl) ?_
    refine lv_iconst (v := nI 0) hx hb dX3_told_14 (by decide) ?_
    refine lv_iconst (v := nI 5) hx hb dX3_told_15 (by decide) ?_
    refine va_calli (va_runS (As := [.int (nI t9), .int (nI 0), .int (nI 5)]) (rest := []) ⟨hx, hb, hml, hown, hts⟩ (c_X3_isIn l G cy ad (Sy cy ad cn ck kv1 o) _ t9 0 5 (by omega) (by omega) (by omega)) (va_cwS 3 hts gX3_told_X3_isIn rfl rfl rfl (by decide +kernel) ⟨Nat.le_of_ble_eq_true rfl, Nat.le_of_ble_eq_true rfl⟩) (mP_S hN hE) rfl rfl hl.1 rfl (lv_room (Nat.le_of_ble_eq_true rfl)) dX3_told_16 ⟨Nat.le_of_ble_eq_true rfl, Nat.le_of_ble_eq_true rfl⟩) hE.2.2.2 (fun q _ h => mE_A hE q h) (mE_A hE) (fun r uq tq H locs ht hvm hw hB hz1 hk1 hS => ?_)
    obtain ⟨rfl, rfl⟩ := hw
    have hE : mE G (mA ad (Sy cy ad cn ck v o) s.heap.size) s.heap ad (Sy cy ad cn ck kv1 o) H locs := mE_call hE hB ht hS
    refine lv_if_eq (tgt := 31) hx hb dX3_told_19 (by decide) (fun c11 => ?_) (fun c11 => ?_)
    · skip
      have c11 := (mz_eq (by omega)).mp c11
      exfalso; omega
    · skip
      have c11 : ¬ 1 = 0 := fun h9 => c11 ((mz_eq (by omega)).mpr h9)
      refine lv_aload_n hx hb dX3_told_22 rfl (lv_at hl 0 rfl) ?_
      refine lv_iload_n hx hb dX3_told_23 rfl (lv_at hl 1 rfl) ?_
      refine lv_iload_n hx hb dX3_told_24 rfl (lv_at hl 2 rfl) ?_
      refine va_calli (va_runV (As := [.int (nI i), .int (nI t9)]) (rest := []) ⟨hx, hb, hml, hown, hts⟩ (c_X3_toldOf l G cy ad cn ck n k kv1 o hn hk _ kf3 kf4 i t9 h_i (by omega) ke6 ke7 ke8 ke9) (cwV 2 hts gX3_told_X3_toldOf rfl rfl rfl (by decide +kernel) ⟨Nat.le_of_ble_eq_true rfl, Nat.le_of_ble_eq_true rfl⟩) (mP_V (r := (RX3, TX3, 11)) hN hE (S_4f kf2 kf3 kf4 kf5) rfl) rfl rfl hl.1 rfl (lv_room (Nat.le_of_ble_eq_true rfl)) dX3_told_25 ⟨Nat.le_of_ble_eq_true rfl, Nat.le_of_ble_eq_true rfl⟩) hE.2.2.2 (fun q _ h => mE_A hE q h) (mE_A hE) (fun r uq tq H locs ht hvm hw hB hz1 hk1 hS => ?_)
      obtain ⟨rfl, kv12, rfl, kq13⟩ := hw
      have hE : mE G (mA ad (Sy cy ad cn ck v o) s.heap.size) s.heap ad (Sy cy ad cn ck kv12 o) H locs := mE_call hE hB ht hS
      have ke14 : kv12 5 = b 5 := (kq13.1 5 (by decide) (by decide) (by decide)).trans ke6
      have ke15 : kv12 6 = b 6 := (kq13.1 6 (by decide) (by decide) (by decide)).trans ke7
      have ke16 : kv12 7 = b 7 := (kq13.1 7 (by decide) (by decide) (by decide)).trans ke8
      have ke17 : kv12 8 = b 8 := (kq13.1 8 (by decide) (by decide) (by decide)).trans ke9
      have kf18 : kv12 4 0 = nI 0 := (kq13.2.1).trans kf2
      have kf19 : kv12 4 1 = nI n := (kq13.2.2.1).trans kf3
      have kf20 : kv12 4 2 = nI k := (kq13.2.2.2).trans kf4
      refine lv_goto (tgt := 36) hx hb dX3_told_28 (by decide) ?_
      exact mx_iret hx hb hr hE hlocks ⟨rfl, ⟨kv12, rfl, fun w h4 h10 h11 => ((kq13.1 w h4 h10 h11).trans (show kv1 w = v w by rw [hkv1, va_up_n _ _ h4])), kf18, (kf19.trans hm1.symm), (kf20.trans hm2.symm)⟩⟩ dX3_told_36

set_option maxHeartbeats 4000000 in
set_option maxRecDepth 100000 in
/-- told -/
theorem x_X3_told1 (l : Launch) (G : va_G) (cy : Nat → ClassId) (ad : Nat → Nat) (cn ck n k : Nat) (v : Nat → Nat → Int32) (o : Nat → Int64) (hn : n ≤ 6) (hk : k ≤ 20) (sz : Nat) (hm1 : v 4 1 = nI n) (hm2 : v 4 2 = nI k) (x : Int32) (hbad : x < 0 ∨ nI n ≤ x) (y : Int32) : mMi l yX3_told wsX3_told ({ frames := 11, cells := 0, slots := 0, locals := 260 }) G cy ad (Sy cy ad cn ck v o) sz [.ref (ad 4), .int x, .int y] 0 0 (fun (r : Int32) u => r = nI 0 ∧ ∃ v' : Nat → Nat → Int32, u = (ad, Sy cy ad cn ck v' o) ∧ mQT v v' (nI 1)) := by
  refine Met.ofW (cc := cX3_told) (maxL := 3) (ret := (some .int)) (by decide) rfl ?_
  intro p e s m args below meth c s₁ B hml hv
  obtain ⟨rfl, hv⟩ := hv
  have hsz := hv.1
  subst hsz
  have hN := hv.2.2
  have hE := mP_E hv
  have hx := B.exec
  have hb := B.bytes
  have hr := B.returns
  have hts := atoms_spec (ws := wsX3_told) B.pre
  have hown : s.vm.findClass RX3 = some m.cls := findClass_of_methodNamed B.named
  have hlocks := B.notSynchronized
  have hiX3 : ∀ w ∈ wsX30, w ∈ wsX3_told := by decide +kernel
  have hl := lv_entry ([.ref (ad 4), .int x, .int y]) (n := 3) (Nat.le_of_ble_eq_true rfl)
  rw [lg_entry_eq]
  generalize (lg_sl ([.ref (ad 4), .int x, .int y]) ++ List.replicate (3 - (lg_sl ([.ref (ad 4), .int x, .int y])).length) Slot.unset).toArray = ls at hl ⊢
  have hl : lv_has ls 3 [(0, .ref (ad 4)), (1, .int x), (2, .int y)] := hl
  refine lv_aload_n hx hb dX3_told_0 rfl (lv_at hl 0 rfl) ?_
  refine lv_iconst (v := nI 0) hx hb dX3_told_1 (by decide) ?_
  refine mx_put (ci := 3) (v := .int (nI 0)) (ty := .int) (C := RX3) (T := TX3) (N := 11) hx hb hts hiX3 tyX3 tyX3_ok nmX3 hown hN hE (S_4f rfl hm1 hm2 rfl) rfl 0 (by decide) (hts (.fieldLink RX3 31 "SealedCupboardsModel" "thrown" "I") (by decide +kernel)) (fun _ h9 => h9) rfl (by decide +kernel) rfl rfl (Nat.le_of_ble_eq_true rfl) dX3_told_2 (fun H locs hE => ?_)
  obtain ⟨kv1, hkv1⟩ : ∃ y99, y99 = va_up v 4 (upd (v 4) 0 (nI 0)) := ⟨_, rfl⟩
  have hE : mE G (mA ad (Sy cy ad cn ck v o) s.heap.size) s.heap ad (Sy cy ad cn ck kv1 o) H locs := by rw [hkv1]; exact (S_4u (upd_s _ _ _) ((upd_n _ _ (by decide)).trans hm1) ((upd_n _ _ (by decide)).trans hm2) ((upd_n _ _ (by decide)).trans rfl)) ▸ hE
  have kf2 : kv1 4 0 = nI 0 := by rw [hkv1, va_up_s, upd_s]
  have kf3 : kv1 4 1 = nI n := by rw [hkv1, va_up_s, upd_n _ _ (by decide)]; exact hm1
  have kf4 : kv1 4 2 = nI k := by rw [hkv1, va_up_s, upd_n _ _ (by decide)]; exact hm2
  have kf5 : kv1 4 10 = v 4 10 := by rw [hkv1, va_up_s, upd_n _ _ (by decide)]
  refine lv_aload_n hx hb dX3_told_5 rfl (lv_at hl 0 rfl) ?_
  refine lv_iload_n hx hb dX3_told_6 rfl (lv_at hl 1 rfl) ?_
  refine va_calli (va_runV (As := [.int x]) (rest := []) ⟨hx, hb, hml, hown, hts⟩ (x_X3_isCupboard l G cy ad cn ck n k kv1 o hn hk _ kf3 kf4 x hbad) (cwV 1 hts gX3_told_X3_isCupboard rfl rfl rfl (by decide +kernel) ⟨Nat.le_of_ble_eq_true rfl, Nat.le_of_ble_eq_true rfl⟩) (mP_V (r := (RX3, TX3, 11)) hN hE (S_4f kf2 kf3 kf4 kf5) rfl) rfl rfl hl.1 rfl (lv_room (Nat.le_of_ble_eq_true rfl)) dX3_told_7 ⟨Nat.le_of_ble_eq_true rfl, Nat.le_of_ble_eq_true rfl⟩) hE.2.2.2 (fun q _ h => mE_A hE q h) (mE_A hE) (fun r uq tq H locs ht hvm hw hB hz1 hk1 hS => ?_)
  obtain ⟨rfl, rfl⟩ := hw
  have hE : mE G (mA ad (Sy cy ad cn ck v o) s.heap.size) s.heap ad (Sy cy ad cn ck kv1 o) H locs := mE_call hE hB ht hS
  refine lv_if_eq (tgt := 31) hx hb dX3_told_10 (by decide) (fun c6 => ?_) (fun c6 => ?_)
  · skip
    have c6 := (mz_eq (by omega)).mp c6
    refine lv_aload_n hx hb dX3_told_31 rfl (lv_at hl 0 rfl) ?_
    refine lv_iconst (v := nI 1) hx hb dX3_told_32 (by decide) ?_
    refine va_calli (va_runV (As := [.int (nI 1)]) (rest := []) ⟨hx, hb, hml, hown, hts⟩ (c_X3_fail l G cy ad cn ck n k kv1 o hn hk _ kf3 kf4 (nI 1)) (cwV 1 hts gX3_told_X3_fail rfl rfl rfl (by decide +kernel) ⟨Nat.le_of_ble_eq_true rfl, Nat.le_of_ble_eq_true rfl⟩) (mP_V (r := (RX3, TX3, 11)) hN hE (S_4f kf2 kf3 kf4 kf5) rfl) rfl rfl hl.1 rfl (lv_room (Nat.le_of_ble_eq_true rfl)) dX3_told_33 ⟨Nat.le_of_ble_eq_true rfl, Nat.le_of_ble_eq_true rfl⟩) hE.2.2.2 (fun q _ h => mE_A hE q h) (mE_A hE) (fun r uq tq H locs ht hvm hw hB hz1 hk1 hS => ?_)
    obtain ⟨rfl, kv7, rfl, kq8⟩ := hw
    have hE : mE G (mA ad (Sy cy ad cn ck v o) s.heap.size) s.heap ad (Sy cy ad cn ck kv7 o) H locs := mE_call hE hB ht hS
    have kf9 : kv7 4 0 = nI 1 := kq8.2.1
    have kf10 : kv7 4 1 = nI n := (kq8.2.2.1).trans kf3
    have kf11 : kv7 4 2 = nI k := (kq8.2.2.2).trans kf4
    exact mx_iret hx hb hr hE hlocks ⟨rfl, ⟨kv7, rfl, fun w h4 h10 h11 => ((kq8.1 w h4 h10 h11).trans (show kv1 w = v w by rw [hkv1, va_up_n _ _ h4])), kf9, (kf10.trans hm1.symm), (kf11.trans hm2.symm)⟩⟩ dX3_told_36
  · skip
    have c6 : ¬ 0 = 0 := fun h9 => c6 ((mz_eq (by omega)).mpr h9)
    exfalso; omega

set_option maxHeartbeats 4000000 in
set_option maxRecDepth 100000 in
/-- told -/
theorem x_X3_told2 (l : Launch) (G : va_G) (cy : Nat → ClassId) (ad : Nat → Nat) (cn ck n k : Nat) (v : Nat → Nat → Int32) (o : Nat → Int64) (hn : n ≤ 6) (hk : k ≤ 20) (sz : Nat) (hm1 : v 4 1 = nI n) (hm2 : v 4 2 = nI k) (i : Nat) (h_i : i < n) (x : Int32) (hbad : x < 0 ∨ nI 6 ≤ x) : mMi l yX3_told wsX3_told ({ frames := 11, cells := 0, slots := 0, locals := 260 }) G cy ad (Sy cy ad cn ck v o) sz [.ref (ad 4), .int (nI i), .int x] 0 0 (fun (r : Int32) u => r = nI 0 ∧ ∃ v' : Nat → Nat → Int32, u = (ad, Sy cy ad cn ck v' o) ∧ mQT v v' (nI 1)) := by
  refine Met.ofW (cc := cX3_told) (maxL := 3) (ret := (some .int)) (by decide) rfl ?_
  intro p e s m args below meth c s₁ B hml hv
  obtain ⟨rfl, hv⟩ := hv
  have hsz := hv.1
  subst hsz
  have hN := hv.2.2
  have hE := mP_E hv
  have hx := B.exec
  have hb := B.bytes
  have hr := B.returns
  have hts := atoms_spec (ws := wsX3_told) B.pre
  have hown : s.vm.findClass RX3 = some m.cls := findClass_of_methodNamed B.named
  have hlocks := B.notSynchronized
  have hiX3 : ∀ w ∈ wsX30, w ∈ wsX3_told := by decide +kernel
  have hl := lv_entry ([.ref (ad 4), .int (nI i), .int x]) (n := 3) (Nat.le_of_ble_eq_true rfl)
  rw [lg_entry_eq]
  generalize (lg_sl ([.ref (ad 4), .int (nI i), .int x]) ++ List.replicate (3 - (lg_sl ([.ref (ad 4), .int (nI i), .int x])).length) Slot.unset).toArray = ls at hl ⊢
  have hl : lv_has ls 3 [(0, .ref (ad 4)), (1, .int (nI i)), (2, .int x)] := hl
  refine lv_aload_n hx hb dX3_told_0 rfl (lv_at hl 0 rfl) ?_
  refine lv_iconst (v := nI 0) hx hb dX3_told_1 (by decide) ?_
  refine mx_put (ci := 3) (v := .int (nI 0)) (ty := .int) (C := RX3) (T := TX3) (N := 11) hx hb hts hiX3 tyX3 tyX3_ok nmX3 hown hN hE (S_4f rfl hm1 hm2 rfl) rfl 0 (by decide) (hts (.fieldLink RX3 31 "SealedCupboardsModel" "thrown" "I") (by decide +kernel)) (fun _ h9 => h9) rfl (by decide +kernel) rfl rfl (Nat.le_of_ble_eq_true rfl) dX3_told_2 (fun H locs hE => ?_)
  obtain ⟨kv1, hkv1⟩ : ∃ y99, y99 = va_up v 4 (upd (v 4) 0 (nI 0)) := ⟨_, rfl⟩
  have hE : mE G (mA ad (Sy cy ad cn ck v o) s.heap.size) s.heap ad (Sy cy ad cn ck kv1 o) H locs := by rw [hkv1]; exact (S_4u (upd_s _ _ _) ((upd_n _ _ (by decide)).trans hm1) ((upd_n _ _ (by decide)).trans hm2) ((upd_n _ _ (by decide)).trans rfl)) ▸ hE
  have kf2 : kv1 4 0 = nI 0 := by rw [hkv1, va_up_s, upd_s]
  have kf3 : kv1 4 1 = nI n := by rw [hkv1, va_up_s, upd_n _ _ (by decide)]; exact hm1
  have kf4 : kv1 4 2 = nI k := by rw [hkv1, va_up_s, upd_n _ _ (by decide)]; exact hm2
  have kf5 : kv1 4 10 = v 4 10 := by rw [hkv1, va_up_s, upd_n _ _ (by decide)]
  refine lv_aload_n hx hb dX3_told_5 rfl (lv_at hl 0 rfl) ?_
  refine lv_iload_n hx hb dX3_told_6 rfl (lv_at hl 1 rfl) ?_
  refine va_calli (va_runV (As := [.int (nI i)]) (rest := []) ⟨hx, hb, hml, hown, hts⟩ (c_X3_isCupboard l G cy ad cn ck n k kv1 o hn hk _ kf3 kf4 i h_i) (cwV 1 hts gX3_told_X3_isCupboard rfl rfl rfl (by decide +kernel) ⟨Nat.le_of_ble_eq_true rfl, Nat.le_of_ble_eq_true rfl⟩) (mP_V (r := (RX3, TX3, 11)) hN hE (S_4f kf2 kf3 kf4 kf5) rfl) rfl rfl hl.1 rfl (lv_room (Nat.le_of_ble_eq_true rfl)) dX3_told_7 ⟨Nat.le_of_ble_eq_true rfl, Nat.le_of_ble_eq_true rfl⟩) hE.2.2.2 (fun q _ h => mE_A hE q h) (mE_A hE) (fun r uq tq H locs ht hvm hw hB hz1 hk1 hS => ?_)
  obtain ⟨rfl, rfl⟩ := hw
  have hE : mE G (mA ad (Sy cy ad cn ck v o) s.heap.size) s.heap ad (Sy cy ad cn ck kv1 o) H locs := mE_call hE hB ht hS
  refine lv_if_eq (tgt := 31) hx hb dX3_told_10 (by decide) (fun c6 => ?_) (fun c6 => ?_)
  · skip
    have c6 := (mz_eq (by omega)).mp c6
    exfalso; omega
  · skip
    have c6 : ¬ 1 = 0 := fun h9 => c6 ((mz_eq (by omega)).mpr h9)
    refine lv_iload_n hx hb dX3_told_13 rfl (lv_at hl 2 rfl) ?_
    refine lv_iconst (v := nI 0) hx hb dX3_told_14 (by decide) ?_
    refine lv_iconst (v := nI 5) hx hb dX3_told_15 (by decide) ?_
    refine va_calli (va_runS (As := [.int x, .int (nI 0), .int (nI 5)]) (rest := []) ⟨hx, hb, hml, hown, hts⟩ (x_X3_isIn l G cy ad (Sy cy ad cn ck kv1 o) _ x (nI 0) (nI 5) (mi_bad hbad rfl (by decide))) (va_cwS 3 hts gX3_told_X3_isIn rfl rfl rfl (by decide +kernel) ⟨Nat.le_of_ble_eq_true rfl, Nat.le_of_ble_eq_true rfl⟩) (mP_S hN hE) rfl rfl hl.1 rfl (lv_room (Nat.le_of_ble_eq_true rfl)) dX3_told_16 ⟨Nat.le_of_ble_eq_true rfl, Nat.le_of_ble_eq_true rfl⟩) hE.2.2.2 (fun q _ h => mE_A hE q h) (mE_A hE) (fun r uq tq H locs ht hvm hw hB hz1 hk1 hS => ?_)
    obtain ⟨rfl, rfl⟩ := hw
    have hE : mE G (mA ad (Sy cy ad cn ck v o) s.heap.size) s.heap ad (Sy cy ad cn ck kv1 o) H locs := mE_call hE hB ht hS
    refine lv_if_eq (tgt := 31) hx hb dX3_told_19 (by decide) (fun c7 => ?_) (fun c7 => ?_)
    · skip
      have c7 := (mz_eq (by omega)).mp c7
      refine lv_aload_n hx hb dX3_told_31 rfl (lv_at hl 0 rfl) ?_
      refine lv_iconst (v := nI 1) hx hb dX3_told_32 (by decide) ?_
      refine va_calli (va_runV (As := [.int (nI 1)]) (rest := []) ⟨hx, hb, hml, hown, hts⟩ (c_X3_fail l G cy ad cn ck n k kv1 o hn hk _ kf3 kf4 (nI 1)) (cwV 1 hts gX3_told_X3_fail rfl rfl rfl (by decide +kernel) ⟨Nat.le_of_ble_eq_true rfl, Nat.le_of_ble_eq_true rfl⟩) (mP_V (r := (RX3, TX3, 11)) hN hE (S_4f kf2 kf3 kf4 kf5) rfl) rfl rfl hl.1 rfl (lv_room (Nat.le_of_ble_eq_true rfl)) dX3_told_33 ⟨Nat.le_of_ble_eq_true rfl, Nat.le_of_ble_eq_true rfl⟩) hE.2.2.2 (fun q _ h => mE_A hE q h) (mE_A hE) (fun r uq tq H locs ht hvm hw hB hz1 hk1 hS => ?_)
      obtain ⟨rfl, kv8, rfl, kq9⟩ := hw
      have hE : mE G (mA ad (Sy cy ad cn ck v o) s.heap.size) s.heap ad (Sy cy ad cn ck kv8 o) H locs := mE_call hE hB ht hS
      have kf10 : kv8 4 0 = nI 1 := kq9.2.1
      have kf11 : kv8 4 1 = nI n := (kq9.2.2.1).trans kf3
      have kf12 : kv8 4 2 = nI k := (kq9.2.2.2).trans kf4
      exact mx_iret hx hb hr hE hlocks ⟨rfl, ⟨kv8, rfl, fun w h4 h10 h11 => ((kq9.1 w h4 h10 h11).trans (show kv1 w = v w by rw [hkv1, va_up_n _ _ h4])), kf10, (kf11.trans hm1.symm), (kf12.trans hm2.symm)⟩⟩ dX3_told_36
    · skip
      have c7 : ¬ 0 = 0 := fun h9 => c7 ((mz_eq (by omega)).mpr h9)
      exfalso; omega

set_option maxHeartbeats 4000000 in
set_option maxRecDepth 100000 in
/-- thing -/
theorem c_X3_thing (l : Launch) (G : va_G) (cy : Nat → ClassId) (ad : Nat → Nat) (cn ck n k : Nat) (v : Nat → Nat → Int32) (o : Nat → Int64) (hn : n ≤ 6) (hk : k ≤ 20) (sz : Nat) (hm1 : v 4 1 = nI n) (hm2 : v 4 2 = nI k) (i d : Nat) (h_i : i < n) (hd : d < 16) {f5 : Nat → Int32} (h5 : v 5 = f5) : mMi l yX3_thing wsX3_thing ({ frames := 9, cells := 0, slots := 0, locals := 180 }) G cy ad (Sy cy ad cn ck v o) sz [.ref (ad 4), .int (nI i), .int (nI d)] 0 0 (fun (r : Int32) u => r = f5 (16 * i + d) ∧ ∃ v' : Nat → Nat → Int32, u = (ad, Sy cy ad cn ck v' o) ∧ mQT v v' (nI 0)) := by
  refine Met.ofW (cc := cX3_thing) (maxL := 3) (ret := (some .int)) (by decide) rfl ?_
  intro p e s m args below meth c s₁ B hml hv
  obtain ⟨rfl, hv⟩ := hv
  have hsz := hv.1
  subst hsz
  have hN := hv.2.2
  have hE := mP_E hv
  have hx := B.exec
  have hb := B.bytes
  have hr := B.returns
  have hts := atoms_spec (ws := wsX3_thing) B.pre
  have hown : s.vm.findClass RX3 = some m.cls := findClass_of_methodNamed B.named
  have hlocks := B.notSynchronized
  have hiX3 : ∀ w ∈ wsX30, w ∈ wsX3_thing := by decide +kernel
  have hl := lv_entry ([.ref (ad 4), .int (nI i), .int (nI d)]) (n := 3) (Nat.le_of_ble_eq_true rfl)
  rw [lg_entry_eq]
  generalize (lg_sl ([.ref (ad 4), .int (nI i), .int (nI d)]) ++ List.replicate (3 - (lg_sl ([.ref (ad 4), .int (nI i), .int (nI d)])).length) Slot.unset).toArray = ls at hl ⊢
  have hl : lv_has ls 3 [(0, .ref (ad 4)), (1, .int (nI i)), (2, .int (nI d))] := hl
  refine lv_aload_n hx hb dX3_thing_0 rfl (lv_at hl 0 rfl) ?_
  refine lv_iconst (v := nI 0) hx hb dX3_thing_1 (by decide) ?_
  refine mx_put (ci := 3) (v := .int (nI 0)) (ty := .int) (C := RX3) (T := TX3) (N := 11) hx hb hts hiX3 tyX3 tyX3_ok nmX3 hown hN hE (S_4f rfl hm1 hm2 rfl) rfl 0 (by decide) (hts (.fieldLink RX3 31 "SealedCupboardsModel" "thrown" "I") (by decide +kernel)) (fun _ h9 => h9) rfl (by decide +kernel) rfl rfl (Nat.le_of_ble_eq_true rfl) dX3_thing_2 (fun H locs hE => ?_)
  obtain ⟨kv1, hkv1⟩ : ∃ y99, y99 = va_up v 4 (upd (v 4) 0 (nI 0)) := ⟨_, rfl⟩
  have hE : mE G (mA ad (Sy cy ad cn ck v o) s.heap.size) s.heap ad (Sy cy ad cn ck kv1 o) H locs := by rw [hkv1]; exact (S_4u (upd_s _ _ _) ((upd_n _ _ (by decide)).trans hm1) ((upd_n _ _ (by decide)).trans hm2) ((upd_n _ _ (by decide)).trans rfl)) ▸ hE
  have kf2 : kv1 4 0 = nI 0 := by rw [hkv1, va_up_s, upd_s]
  have kf3 : kv1 4 1 = nI n := by rw [hkv1, va_up_s, upd_n _ _ (by decide)]; exact hm1
  have kf4 : kv1 4 2 = nI k := by rw [hkv1, va_up_s, upd_n _ _ (by decide)]; exact hm2
  have kf5 : kv1 4 10 = v 4 10 := by rw [hkv1, va_up_s, upd_n _ _ (by decide)]
  have ke6 : kv1 5 = f5 := by rw [hkv1, va_up_n _ _ (by omega)]; exact h5
  refine lv_aload_n hx hb dX3_thing_5 rfl (lv_at hl 0 rfl) ?_
  refine lv_iload_n hx hb dX3_thing_6 rfl (lv_at hl 1 rfl) ?_
  refine va_calli (va_runV (As := [.int (nI i)]) (rest := []) ⟨hx, hb, hml, hown, hts⟩ (c_X3_isCupboard l G cy ad cn ck n k kv1 o hn hk _ kf3 kf4 i h_i) (cwV 1 hts gX3_thing_X3_isCupboard rfl rfl rfl (by decide +kernel) ⟨Nat.le_of_ble_eq_true rfl, Nat.le_of_ble_eq_true rfl⟩) (mP_V (r := (RX3, TX3, 11)) hN hE (S_4f kf2 kf3 kf4 kf5) rfl) rfl rfl hl.1 rfl (lv_room (Nat.le_of_ble_eq_true rfl)) dX3_thing_7 ⟨Nat.le_of_ble_eq_true rfl, Nat.le_of_ble_eq_true rfl⟩) hE.2.2.2 (fun q _ h => mE_A hE q h) (mE_A hE) (fun r uq tq H locs ht hvm hw hB hz1 hk1 hS => ?_)
  obtain ⟨rfl, rfl⟩ := hw
  have hE : mE G (mA ad (Sy cy ad cn ck v o) s.heap.size) s.heap ad (Sy cy ad cn ck kv1 o) H locs := mE_call hE hB ht hS
  refine lv_if_eq (tgt := 29) hx hb dX3_thing_10 (by decide) (fun c7 => ?_) (fun c7 => ?_)
  · skip
    have c7 := (mz_eq (by omega)).mp c7
    exfalso; omega
  · skip
    have c7 : ¬ 1 = 0 := fun h9 => c7 ((mz_eq (by omega)).mpr h9)
    refine lv_iload_n hx hb dX3_thing_13 rfl (lv_at hl 2 rfl) ?_
    refine va_calli (va_runS (As := [.int (nI d)]) (rest := []) ⟨hx, hb, hml, hown, hts⟩ (c_X3_isDrawer l G cy ad (Sy cy ad cn ck kv1 o) _ d (by omega)) (va_cwS 1 hts gX3_thing_X3_isDrawer rfl rfl rfl (by decide +kernel) ⟨Nat.le_of_ble_eq_true rfl, Nat.le_of_ble_eq_true rfl⟩) (mP_S hN hE) rfl rfl hl.1 rfl (lv_room (Nat.le_of_ble_eq_true rfl)) dX3_thing_14 ⟨Nat.le_of_ble_eq_true rfl, Nat.le_of_ble_eq_true rfl⟩) hE.2.2.2 (fun q _ h => mE_A hE q h) (mE_A hE) (fun r uq tq H locs ht hvm hw hB hz1 hk1 hS => ?_)
    obtain ⟨rfl, rfl⟩ := hw
    have hE : mE G (mA ad (Sy cy ad cn ck v o) s.heap.size) s.heap ad (Sy cy ad cn ck kv1 o) H locs := mE_call hE hB ht hS
    refine lv_if_eq (tgt := 29) hx hb dX3_thing_17 (by decide) (fun c8 => ?_) (fun c8 => ?_)
    · skip
      have c8 := (mz_eq (by omega)).mp c8
      exfalso; omega
    · skip
      have c8 : ¬ 1 = 0 := fun h9 => c8 ((mz_eq (by omega)).mpr h9)
      refine lv_aload_n hx hb dX3_thing_20 rfl (lv_at hl 0 rfl) ?_
      refine lv_iload_n hx hb dX3_thing_21 rfl (lv_at hl 1 rfl) ?_
      refine lv_iload_n hx hb dX3_thing_22 rfl (lv_at hl 2 rfl) ?_
      refine va_calli (va_runV (As := [.int (nI i), .int (nI d)]) (rest := []) ⟨hx, hb, hml, hown, hts⟩ (c_X3_th l G cy ad cn ck n k kv1 o hn hk _ kf3 kf4 i d h_i (by omega) ke6) (cwV 2 hts gX3_thing_X3_th rfl rfl rfl (by decide +kernel) ⟨Nat.le_of_ble_eq_true rfl, Nat.le_of_ble_eq_true rfl⟩) (mP_V (r := (RX3, TX3, 11)) hN hE (S_4f kf2 kf3 kf4 kf5) rfl) rfl rfl hl.1 rfl (lv_room (Nat.le_of_ble_eq_true rfl)) dX3_thing_23 ⟨Nat.le_of_ble_eq_true rfl, Nat.le_of_ble_eq_true rfl⟩) hE.2.2.2 (fun q _ h => mE_A hE q h) (mE_A hE) (fun r uq tq H locs ht hvm hw hB hz1 hk1 hS => ?_)
      obtain ⟨rfl, rfl⟩ := hw
      have hE : mE G (mA ad (Sy cy ad cn ck v o) s.heap.size) s.heap ad (Sy cy ad cn ck kv1 o) H locs := mE_call hE hB ht hS
      refine lv_goto (tgt := 34) hx hb dX3_thing_26 (by decide) ?_
      exact mx_iret hx hb hr hE hlocks ⟨rfl, ⟨kv1, rfl, fun w h4 h10 h11 => (show kv1 w = v w by rw [hkv1, va_up_n _ _ h4]), kf2, (kf3.trans hm1.symm), (kf4.trans hm2.symm)⟩⟩ dX3_thing_34

set_option maxHeartbeats 4000000 in
set_option maxRecDepth 100000 in
/-- thing -/
theorem x_X3_thing1 (l : Launch) (G : va_G) (cy : Nat → ClassId) (ad : Nat → Nat) (cn ck n k : Nat) (v : Nat → Nat → Int32) (o : Nat → Int64) (hn : n ≤ 6) (hk : k ≤ 20) (sz : Nat) (hm1 : v 4 1 = nI n) (hm2 : v 4 2 = nI k) (x : Int32) (hbad : x < 0 ∨ nI n ≤ x) (y : Int32) : mMi l yX3_thing wsX3_thing ({ frames := 9, cells := 0, slots := 0, locals := 180 }) G cy ad (Sy cy ad cn ck v o) sz [.ref (ad 4), .int x, .int y] 0 0 (fun (r : Int32) u => r = nI 0 ∧ ∃ v' : Nat → Nat → Int32, u = (ad, Sy cy ad cn ck v' o) ∧ mQT v v' (nI 1)) := by
  refine Met.ofW (cc := cX3_thing) (maxL := 3) (ret := (some .int)) (by decide) rfl ?_
  intro p e s m args below meth c s₁ B hml hv
  obtain ⟨rfl, hv⟩ := hv
  have hsz := hv.1
  subst hsz
  have hN := hv.2.2
  have hE := mP_E hv
  have hx := B.exec
  have hb := B.bytes
  have hr := B.returns
  have hts := atoms_spec (ws := wsX3_thing) B.pre
  have hown : s.vm.findClass RX3 = some m.cls := findClass_of_methodNamed B.named
  have hlocks := B.notSynchronized
  have hiX3 : ∀ w ∈ wsX30, w ∈ wsX3_thing := by decide +kernel
  have hl := lv_entry ([.ref (ad 4), .int x, .int y]) (n := 3) (Nat.le_of_ble_eq_true rfl)
  rw [lg_entry_eq]
  generalize (lg_sl ([.ref (ad 4), .int x, .int y]) ++ List.replicate (3 - (lg_sl ([.ref (ad 4), .int x, .int y])).length) Slot.unset).toArray = ls at hl ⊢
  have hl : lv_has ls 3 [(0, .ref (ad 4)), (1, .int x), (2, .int y)] := hl
  refine lv_aload_n hx hb dX3_thing_0 rfl (lv_at hl 0 rfl) ?_
  refine lv_iconst (v := nI 0) hx hb dX3_thing_1 (by decide) ?_
  refine mx_put (ci := 3) (v := .int (nI 0)) (ty := .int) (C := RX3) (T := TX3) (N := 11) hx hb hts hiX3 tyX3 tyX3_ok nmX3 hown hN hE (S_4f rfl hm1 hm2 rfl) rfl 0 (by decide) (hts (.fieldLink RX3 31 "SealedCupboardsModel" "thrown" "I") (by decide +kernel)) (fun _ h9 => h9) rfl (by decide +kernel) rfl rfl (Nat.le_of_ble_eq_true rfl) dX3_thing_2 (fun H locs hE => ?_)
  obtain ⟨kv1, hkv1⟩ : ∃ y99, y99 = va_up v 4 (upd (v 4) 0 (nI 0)) := ⟨_, rfl⟩
  have hE : mE G (mA ad (Sy cy ad cn ck v o) s.heap.size) s.heap ad (Sy cy ad cn ck kv1 o) H locs := by rw [hkv1]; exact (S_4u (upd_s _ _ _) ((upd_n _ _ (by decide)).trans hm1) ((upd_n _ _ (by decide)).trans hm2) ((upd_n _ _ (by decide)).trans rfl)) ▸ hE
  have kf2 : kv1 4 0 = nI 0 := by rw [hkv1, va_up_s, upd_s]
  have kf3 : kv1 4 1 = nI n := by rw [hkv1, va_up_s, upd_n _ _ (by decide)]; exact hm1
  have kf4 : kv1 4 2 = nI k := by rw [hkv1, va_up_s, upd_n _ _ (by decide)]; exact hm2
  have kf5 : kv1 4 10 = v 4 10 := by rw [hkv1, va_up_s, upd_n _ _ (by decide)]
  refine lv_aload_n hx hb dX3_thing_5 rfl (lv_at hl 0 rfl) ?_
  refine lv_iload_n hx hb dX3_thing_6 rfl (lv_at hl 1 rfl) ?_
  refine va_calli (va_runV (As := [.int x]) (rest := []) ⟨hx, hb, hml, hown, hts⟩ (x_X3_isCupboard l G cy ad cn ck n k kv1 o hn hk _ kf3 kf4 x hbad) (cwV 1 hts gX3_thing_X3_isCupboard rfl rfl rfl (by decide +kernel) ⟨Nat.le_of_ble_eq_true rfl, Nat.le_of_ble_eq_true rfl⟩) (mP_V (r := (RX3, TX3, 11)) hN hE (S_4f kf2 kf3 kf4 kf5) rfl) rfl rfl hl.1 rfl (lv_room (Nat.le_of_ble_eq_true rfl)) dX3_thing_7 ⟨Nat.le_of_ble_eq_true rfl, Nat.le_of_ble_eq_true rfl⟩) hE.2.2.2 (fun q _ h => mE_A hE q h) (mE_A hE) (fun r uq tq H locs ht hvm hw hB hz1 hk1 hS => ?_)
  obtain ⟨rfl, rfl⟩ := hw
  have hE : mE G (mA ad (Sy cy ad cn ck v o) s.heap.size) s.heap ad (Sy cy ad cn ck kv1 o) H locs := mE_call hE hB ht hS
  refine lv_if_eq (tgt := 29) hx hb dX3_thing_10 (by decide) (fun c6 => ?_) (fun c6 => ?_)
  · skip
    have c6 := (mz_eq (by omega)).mp c6
    refine lv_aload_n hx hb dX3_thing_29 rfl (lv_at hl 0 rfl) ?_
    refine lv_iconst (v := nI 1) hx hb dX3_thing_30 (by decide) ?_
    refine va_calli (va_runV (As := [.int (nI 1)]) (rest := []) ⟨hx, hb, hml, hown, hts⟩ (c_X3_fail l G cy ad cn ck n k kv1 o hn hk _ kf3 kf4 (nI 1)) (cwV 1 hts gX3_thing_X3_fail rfl rfl rfl (by decide +kernel) ⟨Nat.le_of_ble_eq_true rfl, Nat.le_of_ble_eq_true rfl⟩) (mP_V (r := (RX3, TX3, 11)) hN hE (S_4f kf2 kf3 kf4 kf5) rfl) rfl rfl hl.1 rfl (lv_room (Nat.le_of_ble_eq_true rfl)) dX3_thing_31 ⟨Nat.le_of_ble_eq_true rfl, Nat.le_of_ble_eq_true rfl⟩) hE.2.2.2 (fun q _ h => mE_A hE q h) (mE_A hE) (fun r uq tq H locs ht hvm hw hB hz1 hk1 hS => ?_)
    obtain ⟨rfl, kv7, rfl, kq8⟩ := hw
    have hE : mE G (mA ad (Sy cy ad cn ck v o) s.heap.size) s.heap ad (Sy cy ad cn ck kv7 o) H locs := mE_call hE hB ht hS
    have kf9 : kv7 4 0 = nI 1 := kq8.2.1
    have kf10 : kv7 4 1 = nI n := (kq8.2.2.1).trans kf3
    have kf11 : kv7 4 2 = nI k := (kq8.2.2.2).trans kf4
    exact mx_iret hx hb hr hE hlocks ⟨rfl, ⟨kv7, rfl, fun w h4 h10 h11 => ((kq8.1 w h4 h10 h11).trans (show kv1 w = v w by rw [hkv1, va_up_n _ _ h4])), kf9, (kf10.trans hm1.symm), (kf11.trans hm2.symm)⟩⟩ dX3_thing_34
  · skip
    have c6 : ¬ 0 = 0 := fun h9 => c6 ((mz_eq (by omega)).mpr h9)
    exfalso; omega

set_option maxHeartbeats 4000000 in
set_option maxRecDepth 100000 in
/-- thing -/
theorem x_X3_thing2 (l : Launch) (G : va_G) (cy : Nat → ClassId) (ad : Nat → Nat) (cn ck n k : Nat) (v : Nat → Nat → Int32) (o : Nat → Int64) (hn : n ≤ 6) (hk : k ≤ 20) (sz : Nat) (hm1 : v 4 1 = nI n) (hm2 : v 4 2 = nI k) (i : Nat) (h_i : i < n) (x : Int32) (hbad : x < 0 ∨ nI 16 ≤ x) : mMi l yX3_thing wsX3_thing ({ frames := 9, cells := 0, slots := 0, locals := 180 }) G cy ad (Sy cy ad cn ck v o) sz [.ref (ad 4), .int (nI i), .int x] 0 0 (fun (r : Int32) u => r = nI 0 ∧ ∃ v' : Nat → Nat → Int32, u = (ad, Sy cy ad cn ck v' o) ∧ mQT v v' (nI 1)) := by
  refine Met.ofW (cc := cX3_thing) (maxL := 3) (ret := (some .int)) (by decide) rfl ?_
  intro p e s m args below meth c s₁ B hml hv
  obtain ⟨rfl, hv⟩ := hv
  have hsz := hv.1
  subst hsz
  have hN := hv.2.2
  have hE := mP_E hv
  have hx := B.exec
  have hb := B.bytes
  have hr := B.returns
  have hts := atoms_spec (ws := wsX3_thing) B.pre
  have hown : s.vm.findClass RX3 = some m.cls := findClass_of_methodNamed B.named
  have hlocks := B.notSynchronized
  have hiX3 : ∀ w ∈ wsX30, w ∈ wsX3_thing := by decide +kernel
  have hl := lv_entry ([.ref (ad 4), .int (nI i), .int x]) (n := 3) (Nat.le_of_ble_eq_true rfl)
  rw [lg_entry_eq]
  generalize (lg_sl ([.ref (ad 4), .int (nI i), .int x]) ++ List.replicate (3 - (lg_sl ([.ref (ad 4), .int (nI i), .int x])).length) Slot.unset).toArray = ls at hl ⊢
  have hl : lv_has ls 3 [(0, .ref (ad 4)), (1, .int (nI i)), (2, .int x)] := hl
  refine lv_aload_n hx hb dX3_thing_0 rfl (lv_at hl 0 rfl) ?_
  refine lv_iconst (v := nI 0) hx hb dX3_thing_1 (by decide) ?_
  refine mx_put (ci := 3) (v := .int (nI 0)) (ty := .int) (C := RX3) (T := TX3) (N := 11) hx hb hts hiX3 tyX3 tyX3_ok nmX3 hown hN hE (S_4f rfl hm1 hm2 rfl) rfl 0 (by decide) (hts (.fieldLink RX3 31 "SealedCupboardsModel" "thrown" "I") (by decide +kernel)) (fun _ h9 => h9) rfl (by decide +kernel) rfl rfl (Nat.le_of_ble_eq_true rfl) dX3_thing_2 (fun H locs hE => ?_)
  obtain ⟨kv1, hkv1⟩ : ∃ y99, y99 = va_up v 4 (upd (v 4) 0 (nI 0)) := ⟨_, rfl⟩
  have hE : mE G (mA ad (Sy cy ad cn ck v o) s.heap.size) s.heap ad (Sy cy ad cn ck kv1 o) H locs := by rw [hkv1]; exact (S_4u (upd_s _ _ _) ((upd_n _ _ (by decide)).trans hm1) ((upd_n _ _ (by decide)).trans hm2) ((upd_n _ _ (by decide)).trans rfl)) ▸ hE
  have kf2 : kv1 4 0 = nI 0 := by rw [hkv1, va_up_s, upd_s]
  have kf3 : kv1 4 1 = nI n := by rw [hkv1, va_up_s, upd_n _ _ (by decide)]; exact hm1
  have kf4 : kv1 4 2 = nI k := by rw [hkv1, va_up_s, upd_n _ _ (by decide)]; exact hm2
  have kf5 : kv1 4 10 = v 4 10 := by rw [hkv1, va_up_s, upd_n _ _ (by decide)]
  refine lv_aload_n hx hb dX3_thing_5 rfl (lv_at hl 0 rfl) ?_
  refine lv_iload_n hx hb dX3_thing_6 rfl (lv_at hl 1 rfl) ?_
  refine va_calli (va_runV (As := [.int (nI i)]) (rest := []) ⟨hx, hb, hml, hown, hts⟩ (c_X3_isCupboard l G cy ad cn ck n k kv1 o hn hk _ kf3 kf4 i h_i) (cwV 1 hts gX3_thing_X3_isCupboard rfl rfl rfl (by decide +kernel) ⟨Nat.le_of_ble_eq_true rfl, Nat.le_of_ble_eq_true rfl⟩) (mP_V (r := (RX3, TX3, 11)) hN hE (S_4f kf2 kf3 kf4 kf5) rfl) rfl rfl hl.1 rfl (lv_room (Nat.le_of_ble_eq_true rfl)) dX3_thing_7 ⟨Nat.le_of_ble_eq_true rfl, Nat.le_of_ble_eq_true rfl⟩) hE.2.2.2 (fun q _ h => mE_A hE q h) (mE_A hE) (fun r uq tq H locs ht hvm hw hB hz1 hk1 hS => ?_)
  obtain ⟨rfl, rfl⟩ := hw
  have hE : mE G (mA ad (Sy cy ad cn ck v o) s.heap.size) s.heap ad (Sy cy ad cn ck kv1 o) H locs := mE_call hE hB ht hS
  refine lv_if_eq (tgt := 29) hx hb dX3_thing_10 (by decide) (fun c6 => ?_) (fun c6 => ?_)
  · skip
    have c6 := (mz_eq (by omega)).mp c6
    exfalso; omega
  · skip
    have c6 : ¬ 1 = 0 := fun h9 => c6 ((mz_eq (by omega)).mpr h9)
    refine lv_iload_n hx hb dX3_thing_13 rfl (lv_at hl 2 rfl) ?_
    refine va_calli (va_runS (As := [.int x]) (rest := []) ⟨hx, hb, hml, hown, hts⟩ (x_X3_isDrawer l G cy ad (Sy cy ad cn ck kv1 o) _ x hbad) (va_cwS 1 hts gX3_thing_X3_isDrawer rfl rfl rfl (by decide +kernel) ⟨Nat.le_of_ble_eq_true rfl, Nat.le_of_ble_eq_true rfl⟩) (mP_S hN hE) rfl rfl hl.1 rfl (lv_room (Nat.le_of_ble_eq_true rfl)) dX3_thing_14 ⟨Nat.le_of_ble_eq_true rfl, Nat.le_of_ble_eq_true rfl⟩) hE.2.2.2 (fun q _ h => mE_A hE q h) (mE_A hE) (fun r uq tq H locs ht hvm hw hB hz1 hk1 hS => ?_)
    obtain ⟨rfl, rfl⟩ := hw
    have hE : mE G (mA ad (Sy cy ad cn ck v o) s.heap.size) s.heap ad (Sy cy ad cn ck kv1 o) H locs := mE_call hE hB ht hS
    refine lv_if_eq (tgt := 29) hx hb dX3_thing_17 (by decide) (fun c7 => ?_) (fun c7 => ?_)
    · skip
      have c7 := (mz_eq (by omega)).mp c7
      refine lv_aload_n hx hb dX3_thing_29 rfl (lv_at hl 0 rfl) ?_
      refine lv_iconst (v := nI 1) hx hb dX3_thing_30 (by decide) ?_
      refine va_calli (va_runV (As := [.int (nI 1)]) (rest := []) ⟨hx, hb, hml, hown, hts⟩ (c_X3_fail l G cy ad cn ck n k kv1 o hn hk _ kf3 kf4 (nI 1)) (cwV 1 hts gX3_thing_X3_fail rfl rfl rfl (by decide +kernel) ⟨Nat.le_of_ble_eq_true rfl, Nat.le_of_ble_eq_true rfl⟩) (mP_V (r := (RX3, TX3, 11)) hN hE (S_4f kf2 kf3 kf4 kf5) rfl) rfl rfl hl.1 rfl (lv_room (Nat.le_of_ble_eq_true rfl)) dX3_thing_31 ⟨Nat.le_of_ble_eq_true rfl, Nat.le_of_ble_eq_true rfl⟩) hE.2.2.2 (fun q _ h => mE_A hE q h) (mE_A hE) (fun r uq tq H locs ht hvm hw hB hz1 hk1 hS => ?_)
      obtain ⟨rfl, kv8, rfl, kq9⟩ := hw
      have hE : mE G (mA ad (Sy cy ad cn ck v o) s.heap.size) s.heap ad (Sy cy ad cn ck kv8 o) H locs := mE_call hE hB ht hS
      have kf10 : kv8 4 0 = nI 1 := kq9.2.1
      have kf11 : kv8 4 1 = nI n := (kq9.2.2.1).trans kf3
      have kf12 : kv8 4 2 = nI k := (kq9.2.2.2).trans kf4
      exact mx_iret hx hb hr hE hlocks ⟨rfl, ⟨kv8, rfl, fun w h4 h10 h11 => ((kq9.1 w h4 h10 h11).trans (show kv1 w = v w by rw [hkv1, va_up_n _ _ h4])), kf10, (kf11.trans hm1.symm), (kf12.trans hm2.symm)⟩⟩ dX3_thing_34
    · skip
      have c7 : ¬ 0 = 0 := fun h9 => c7 ((mz_eq (by omega)).mpr h9)
      exfalso; omega

set_option maxHeartbeats 4000000 in
set_option maxRecDepth 100000 in
/-- about -/
theorem c_X3_about (l : Launch) (G : va_G) (cy : Nat → ClassId) (ad : Nat → Nat) (cn ck n k : Nat) (v : Nat → Nat → Int32) (o : Nat → Int64) (hn : n ≤ 6) (hk : k ≤ 20) (sz : Nat) (hm1 : v 4 1 = nI n) (hm2 : v 4 2 = nI k) (j t9 : Nat) (h_j : j < k) (ht9 : t9 < 4) {b : Nat → Nat → Int32} (h6 : v 6 = b 6) (h7 : v 7 = b 7) (h8 : v 8 = b 8) (h9 : v 9 = b 9) (cu : Nat) (h_cu : cu < n) (hsc : b 7 j = nI cu) : mMi l yX3_about wsX3_about ({ frames := 9, cells := 0, slots := 0, locals := 180 }) G cy ad (Sy cy ad cn ck v o) sz [.ref (ad 4), .int (nI j), .int (nI t9)] 0 0 (fun (r : Int32) u => r = mAbout (mVw b) j cu t9 ∧ ∃ v' : Nat → Nat → Int32, u = (ad, Sy cy ad cn ck v' o) ∧ mQT v v' (nI 0)) := by
  refine Met.ofW (cc := cX3_about) (maxL := 3) (ret := (some .int)) (by decide) rfl ?_
  intro p e s m args below meth c s₁ B hml hv
  obtain ⟨rfl, hv⟩ := hv
  have hsz := hv.1
  subst hsz
  have hN := hv.2.2
  have hE := mP_E hv
  have hx := B.exec
  have hb := B.bytes
  have hr := B.returns
  have hts := atoms_spec (ws := wsX3_about) B.pre
  have hown : s.vm.findClass RX3 = some m.cls := findClass_of_methodNamed B.named
  have hlocks := B.notSynchronized
  have hiX3 : ∀ w ∈ wsX30, w ∈ wsX3_about := by decide +kernel
  have hl := lv_entry ([.ref (ad 4), .int (nI j), .int (nI t9)]) (n := 3) (Nat.le_of_ble_eq_true rfl)
  rw [lg_entry_eq]
  generalize (lg_sl ([.ref (ad 4), .int (nI j), .int (nI t9)]) ++ List.replicate (3 - (lg_sl ([.ref (ad 4), .int (nI j), .int (nI t9)])).length) Slot.unset).toArray = ls at hl ⊢
  have hl : lv_has ls 3 [(0, .ref (ad 4)), (1, .int (nI j)), (2, .int (nI t9))] := hl
  refine lv_aload_n hx hb dX3_about_0 rfl (lv_at hl 0 rfl) ?_
  refine lv_iconst (v := nI 0) hx hb dX3_about_1 (by decide) ?_
  refine mx_put (ci := 3) (v := .int (nI 0)) (ty := .int) (C := RX3) (T := TX3) (N := 11) hx hb hts hiX3 tyX3 tyX3_ok nmX3 hown hN hE (S_4f rfl hm1 hm2 rfl) rfl 0 (by decide) (hts (.fieldLink RX3 31 "SealedCupboardsModel" "thrown" "I") (by decide +kernel)) (fun _ h9 => h9) rfl (by decide +kernel) rfl rfl (Nat.le_of_ble_eq_true rfl) dX3_about_2 (fun H locs hE => ?_)
  obtain ⟨kv1, hkv1⟩ : ∃ y99, y99 = va_up v 4 (upd (v 4) 0 (nI 0)) := ⟨_, rfl⟩
  have hE : mE G (mA ad (Sy cy ad cn ck v o) s.heap.size) s.heap ad (Sy cy ad cn ck kv1 o) H locs := by rw [hkv1]; exact (S_4u (upd_s _ _ _) ((upd_n _ _ (by decide)).trans hm1) ((upd_n _ _ (by decide)).trans hm2) ((upd_n _ _ (by decide)).trans rfl)) ▸ hE
  have kf2 : kv1 4 0 = nI 0 := by rw [hkv1, va_up_s, upd_s]
  have kf3 : kv1 4 1 = nI n := by rw [hkv1, va_up_s, upd_n _ _ (by decide)]; exact hm1
  have kf4 : kv1 4 2 = nI k := by rw [hkv1, va_up_s, upd_n _ _ (by decide)]; exact hm2
  have kf5 : kv1 4 10 = v 4 10 := by rw [hkv1, va_up_s, upd_n _ _ (by decide)]
  have ke6 : kv1 6 = b 6 := by rw [hkv1, va_up_n _ _ (by omega)]; exact h6
  have ke7 : kv1 7 = b 7 := by rw [hkv1, va_up_n _ _ (by omega)]; exact h7
  have ke8 : kv1 8 = b 8 := by rw [hkv1, va_up_n _ _ (by omega)]; exact h8
  have ke9 : kv1 9 = b 9 := by rw [hkv1, va_up_n _ _ (by omega)]; exact h9
  refine lv_aload_n hx hb dX3_about_5 rfl (lv_at hl 0 rfl) ?_
  refine lv_iload_n hx hb dX3_about_6 rfl (lv_at hl 1 rfl) ?_
  refine va_calli (va_runV (As := [.int (nI j)]) (rest := []) ⟨hx, hb, hml, hown, hts⟩ (c_X3_isSeal l G cy ad cn ck n k kv1 o hn hk _ kf3 kf4 j h_j) (cwV 1 hts gX3_about_X3_isSeal rfl rfl rfl (by decide +kernel) ⟨Nat.le_of_ble_eq_true rfl, Nat.le_of_ble_eq_true rfl⟩) (mP_V (r := (RX3, TX3, 11)) hN hE (S_4f kf2 kf3 kf4 kf5) rfl) rfl rfl hl.1 rfl (lv_room (Nat.le_of_ble_eq_true rfl)) dX3_about_7 ⟨Nat.le_of_ble_eq_true rfl, Nat.le_of_ble_eq_true rfl⟩) hE.2.2.2 (fun q _ h => mE_A hE q h) (mE_A hE) (fun r uq tq H locs ht hvm hw hB hz1 hk1 hS => ?_)
  obtain ⟨rfl, rfl⟩ := hw
  have hE : mE G (mA ad (Sy cy ad cn ck v o) s.heap.size) s.heap ad (Sy cy ad cn ck kv1 o) H locs := mE_call hE hB ht hS
  refine lv_if_eq (tgt := 31) hx hb dX3_about_10 (by decide) (fun c10 => ?_) (fun c10 => ?_)
  · skip
    have c10 := (mz_eq (by omega)).mp c10
    exfalso; omega
  · skip
    have c10 : ¬ 1 = 0 := fun h9 => c10 ((mz_eq (by omega)).mpr h9)
    refine lv_iload_n hx hb dX3_about_13 rfl (lv_at hl 2 rfl) ?_
    refine lv_iconst (v := nI 0) hx hb dX3_about_14 (by decide) ?_
    refine lv_iconst (v := nI 3) hx hb dX3_about_15 (by decide) ?_
    refine va_calli (va_runS (As := [.int (nI t9), .int (nI 0), .int (nI 3)]) (rest := []) ⟨hx, hb, hml, hown, hts⟩ (c_X3_isIn l G cy ad (Sy cy ad cn ck kv1 o) _ t9 0 3 (by omega) (by omega) (by omega)) (va_cwS 3 hts gX3_about_X3_isIn rfl rfl rfl (by decide +kernel) ⟨Nat.le_of_ble_eq_true rfl, Nat.le_of_ble_eq_true rfl⟩) (mP_S hN hE) rfl rfl hl.1 rfl (lv_room (Nat.le_of_ble_eq_true rfl)) dX3_about_16 ⟨Nat.le_of_ble_eq_true rfl, Nat.le_of_ble_eq_true rfl⟩) hE.2.2.2 (fun q _ h => mE_A hE q h) (mE_A hE) (fun r uq tq H locs ht hvm hw hB hz1 hk1 hS => ?_)
    obtain ⟨rfl, rfl⟩ := hw
    have hE : mE G (mA ad (Sy cy ad cn ck v o) s.heap.size) s.heap ad (Sy cy ad cn ck kv1 o) H locs := mE_call hE hB ht hS
    refine lv_if_eq (tgt := 31) hx hb dX3_about_19 (by decide) (fun c11 => ?_) (fun c11 => ?_)
    · skip
      have c11 := (mz_eq (by omega)).mp c11
      exfalso; omega
    · skip
      have c11 : ¬ 1 = 0 := fun h9 => c11 ((mz_eq (by omega)).mpr h9)
      refine lv_aload_n hx hb dX3_about_22 rfl (lv_at hl 0 rfl) ?_
      refine lv_iload_n hx hb dX3_about_23 rfl (lv_at hl 1 rfl) ?_
      refine lv_iload_n hx hb dX3_about_24 rfl (lv_at hl 2 rfl) ?_
      refine va_calli (va_runV (As := [.int (nI j), .int (nI t9)]) (rest := []) ⟨hx, hb, hml, hown, hts⟩ (c_X3_sealTold l G cy ad cn ck n k kv1 o hn hk _ kf3 kf4 j t9 h_j (by omega) ke6 ke7 ke8 ke9 cu h_cu hsc) (cwV 2 hts gX3_about_X3_sealTold rfl rfl rfl (by decide +kernel) ⟨Nat.le_of_ble_eq_true rfl, Nat.le_of_ble_eq_true rfl⟩) (mP_V (r := (RX3, TX3, 11)) hN hE (S_4f kf2 kf3 kf4 kf5) rfl) rfl rfl hl.1 rfl (lv_room (Nat.le_of_ble_eq_true rfl)) dX3_about_25 ⟨Nat.le_of_ble_eq_true rfl, Nat.le_of_ble_eq_true rfl⟩) hE.2.2.2 (fun q _ h => mE_A hE q h) (mE_A hE) (fun r uq tq H locs ht hvm hw hB hz1 hk1 hS => ?_)
      obtain ⟨rfl, rfl⟩ := hw
      have hE : mE G (mA ad (Sy cy ad cn ck v o) s.heap.size) s.heap ad (Sy cy ad cn ck kv1 o) H locs := mE_call hE hB ht hS
      refine lv_goto (tgt := 36) hx hb dX3_about_28 (by decide) ?_
      exact mx_iret hx hb hr hE hlocks ⟨rfl, ⟨kv1, rfl, fun w h4 h10 h11 => (show kv1 w = v w by rw [hkv1, va_up_n _ _ h4]), kf2, (kf3.trans hm1.symm), (kf4.trans hm2.symm)⟩⟩ dX3_about_36

set_option maxHeartbeats 4000000 in
set_option maxRecDepth 100000 in
/-- about -/
theorem x_X3_about1 (l : Launch) (G : va_G) (cy : Nat → ClassId) (ad : Nat → Nat) (cn ck n k : Nat) (v : Nat → Nat → Int32) (o : Nat → Int64) (hn : n ≤ 6) (hk : k ≤ 20) (sz : Nat) (hm1 : v 4 1 = nI n) (hm2 : v 4 2 = nI k) (x : Int32) (hbad : x < 0 ∨ nI k ≤ x) (y : Int32) : mMi l yX3_about wsX3_about ({ frames := 9, cells := 0, slots := 0, locals := 180 }) G cy ad (Sy cy ad cn ck v o) sz [.ref (ad 4), .int x, .int y] 0 0 (fun (r : Int32) u => r = nI 0 ∧ ∃ v' : Nat → Nat → Int32, u = (ad, Sy cy ad cn ck v' o) ∧ mQT v v' (nI 1)) := by
  refine Met.ofW (cc := cX3_about) (maxL := 3) (ret := (some .int)) (by decide) rfl ?_
  intro p e s m args below meth c s₁ B hml hv
  obtain ⟨rfl, hv⟩ := hv
  have hsz := hv.1
  subst hsz
  have hN := hv.2.2
  have hE := mP_E hv
  have hx := B.exec
  have hb := B.bytes
  have hr := B.returns
  have hts := atoms_spec (ws := wsX3_about) B.pre
  have hown : s.vm.findClass RX3 = some m.cls := findClass_of_methodNamed B.named
  have hlocks := B.notSynchronized
  have hiX3 : ∀ w ∈ wsX30, w ∈ wsX3_about := by decide +kernel
  have hl := lv_entry ([.ref (ad 4), .int x, .int y]) (n := 3) (Nat.le_of_ble_eq_true rfl)
  rw [lg_entry_eq]
  generalize (lg_sl ([.ref (ad 4), .int x, .int y]) ++ List.replicate (3 - (lg_sl ([.ref (ad 4), .int x, .int y])).length) Slot.unset).toArray = ls at hl ⊢
  have hl : lv_has ls 3 [(0, .ref (ad 4)), (1, .int x), (2, .int y)] := hl
  refine lv_aload_n hx hb dX3_about_0 rfl (lv_at hl 0 rfl) ?_
  refine lv_iconst (v := nI 0) hx hb dX3_about_1 (by decide) ?_
  refine mx_put (ci := 3) (v := .int (nI 0)) (ty := .int) (C := RX3) (T := TX3) (N := 11) hx hb hts hiX3 tyX3 tyX3_ok nmX3 hown hN hE (S_4f rfl hm1 hm2 rfl) rfl 0 (by decide) (hts (.fieldLink RX3 31 "SealedCupboardsModel" "thrown" "I") (by decide +kernel)) (fun _ h9 => h9) rfl (by decide +kernel) rfl rfl (Nat.le_of_ble_eq_true rfl) dX3_about_2 (fun H locs hE => ?_)
  obtain ⟨kv1, hkv1⟩ : ∃ y99, y99 = va_up v 4 (upd (v 4) 0 (nI 0)) := ⟨_, rfl⟩
  have hE : mE G (mA ad (Sy cy ad cn ck v o) s.heap.size) s.heap ad (Sy cy ad cn ck kv1 o) H locs := by rw [hkv1]; exact (S_4u (upd_s _ _ _) ((upd_n _ _ (by decide)).trans hm1) ((upd_n _ _ (by decide)).trans hm2) ((upd_n _ _ (by decide)).trans rfl)) ▸ hE
  have kf2 : kv1 4 0 = nI 0 := by rw [hkv1, va_up_s, upd_s]
  have kf3 : kv1 4 1 = nI n := by rw [hkv1, va_up_s, upd_n _ _ (by decide)]; exact hm1
  have kf4 : kv1 4 2 = nI k := by rw [hkv1, va_up_s, upd_n _ _ (by decide)]; exact hm2
  have kf5 : kv1 4 10 = v 4 10 := by rw [hkv1, va_up_s, upd_n _ _ (by decide)]
  refine lv_aload_n hx hb dX3_about_5 rfl (lv_at hl 0 rfl) ?_
  refine lv_iload_n hx hb dX3_about_6 rfl (lv_at hl 1 rfl) ?_
  refine va_calli (va_runV (As := [.int x]) (rest := []) ⟨hx, hb, hml, hown, hts⟩ (x_X3_isSeal l G cy ad cn ck n k kv1 o hn hk _ kf3 kf4 x hbad) (cwV 1 hts gX3_about_X3_isSeal rfl rfl rfl (by decide +kernel) ⟨Nat.le_of_ble_eq_true rfl, Nat.le_of_ble_eq_true rfl⟩) (mP_V (r := (RX3, TX3, 11)) hN hE (S_4f kf2 kf3 kf4 kf5) rfl) rfl rfl hl.1 rfl (lv_room (Nat.le_of_ble_eq_true rfl)) dX3_about_7 ⟨Nat.le_of_ble_eq_true rfl, Nat.le_of_ble_eq_true rfl⟩) hE.2.2.2 (fun q _ h => mE_A hE q h) (mE_A hE) (fun r uq tq H locs ht hvm hw hB hz1 hk1 hS => ?_)
  obtain ⟨rfl, rfl⟩ := hw
  have hE : mE G (mA ad (Sy cy ad cn ck v o) s.heap.size) s.heap ad (Sy cy ad cn ck kv1 o) H locs := mE_call hE hB ht hS
  refine lv_if_eq (tgt := 31) hx hb dX3_about_10 (by decide) (fun c6 => ?_) (fun c6 => ?_)
  · skip
    have c6 := (mz_eq (by omega)).mp c6
    refine lv_aload_n hx hb dX3_about_31 rfl (lv_at hl 0 rfl) ?_
    refine lv_iconst (v := nI 1) hx hb dX3_about_32 (by decide) ?_
    refine va_calli (va_runV (As := [.int (nI 1)]) (rest := []) ⟨hx, hb, hml, hown, hts⟩ (c_X3_fail l G cy ad cn ck n k kv1 o hn hk _ kf3 kf4 (nI 1)) (cwV 1 hts gX3_about_X3_fail rfl rfl rfl (by decide +kernel) ⟨Nat.le_of_ble_eq_true rfl, Nat.le_of_ble_eq_true rfl⟩) (mP_V (r := (RX3, TX3, 11)) hN hE (S_4f kf2 kf3 kf4 kf5) rfl) rfl rfl hl.1 rfl (lv_room (Nat.le_of_ble_eq_true rfl)) dX3_about_33 ⟨Nat.le_of_ble_eq_true rfl, Nat.le_of_ble_eq_true rfl⟩) hE.2.2.2 (fun q _ h => mE_A hE q h) (mE_A hE) (fun r uq tq H locs ht hvm hw hB hz1 hk1 hS => ?_)
    obtain ⟨rfl, kv7, rfl, kq8⟩ := hw
    have hE : mE G (mA ad (Sy cy ad cn ck v o) s.heap.size) s.heap ad (Sy cy ad cn ck kv7 o) H locs := mE_call hE hB ht hS
    have kf9 : kv7 4 0 = nI 1 := kq8.2.1
    have kf10 : kv7 4 1 = nI n := (kq8.2.2.1).trans kf3
    have kf11 : kv7 4 2 = nI k := (kq8.2.2.2).trans kf4
    exact mx_iret hx hb hr hE hlocks ⟨rfl, ⟨kv7, rfl, fun w h4 h10 h11 => ((kq8.1 w h4 h10 h11).trans (show kv1 w = v w by rw [hkv1, va_up_n _ _ h4])), kf9, (kf10.trans hm1.symm), (kf11.trans hm2.symm)⟩⟩ dX3_about_36
  · skip
    have c6 : ¬ 0 = 0 := fun h9 => c6 ((mz_eq (by omega)).mpr h9)
    exfalso; omega

set_option maxHeartbeats 4000000 in
set_option maxRecDepth 100000 in
/-- about -/
theorem x_X3_about2 (l : Launch) (G : va_G) (cy : Nat → ClassId) (ad : Nat → Nat) (cn ck n k : Nat) (v : Nat → Nat → Int32) (o : Nat → Int64) (hn : n ≤ 6) (hk : k ≤ 20) (sz : Nat) (hm1 : v 4 1 = nI n) (hm2 : v 4 2 = nI k) (j : Nat) (h_j : j < k) (x : Int32) (hbad : x < 0 ∨ nI 4 ≤ x) : mMi l yX3_about wsX3_about ({ frames := 9, cells := 0, slots := 0, locals := 180 }) G cy ad (Sy cy ad cn ck v o) sz [.ref (ad 4), .int (nI j), .int x] 0 0 (fun (r : Int32) u => r = nI 0 ∧ ∃ v' : Nat → Nat → Int32, u = (ad, Sy cy ad cn ck v' o) ∧ mQT v v' (nI 1)) := by
  refine Met.ofW (cc := cX3_about) (maxL := 3) (ret := (some .int)) (by decide) rfl ?_
  intro p e s m args below meth c s₁ B hml hv
  obtain ⟨rfl, hv⟩ := hv
  have hsz := hv.1
  subst hsz
  have hN := hv.2.2
  have hE := mP_E hv
  have hx := B.exec
  have hb := B.bytes
  have hr := B.returns
  have hts := atoms_spec (ws := wsX3_about) B.pre
  have hown : s.vm.findClass RX3 = some m.cls := findClass_of_methodNamed B.named
  have hlocks := B.notSynchronized
  have hiX3 : ∀ w ∈ wsX30, w ∈ wsX3_about := by decide +kernel
  have hl := lv_entry ([.ref (ad 4), .int (nI j), .int x]) (n := 3) (Nat.le_of_ble_eq_true rfl)
  rw [lg_entry_eq]
  generalize (lg_sl ([.ref (ad 4), .int (nI j), .int x]) ++ List.replicate (3 - (lg_sl ([.ref (ad 4), .int (nI j), .int x])).length) Slot.unset).toArray = ls at hl ⊢
  have hl : lv_has ls 3 [(0, .ref (ad 4)), (1, .int (nI j)), (2, .int x)] := hl
  refine lv_aload_n hx hb dX3_about_0 rfl (lv_at hl 0 rfl) ?_
  refine lv_iconst (v := nI 0) hx hb dX3_about_1 (by decide) ?_
  refine mx_put (ci := 3) (v := .int (nI 0)) (ty := .int) (C := RX3) (T := TX3) (N := 11) hx hb hts hiX3 tyX3 tyX3_ok nmX3 hown hN hE (S_4f rfl hm1 hm2 rfl) rfl 0 (by decide) (hts (.fieldLink RX3 31 "SealedCupboardsModel" "thrown" "I") (by decide +kernel)) (fun _ h9 => h9) rfl (by decide +kernel) rfl rfl (Nat.le_of_ble_eq_true rfl) dX3_about_2 (fun H locs hE => ?_)
  obtain ⟨kv1, hkv1⟩ : ∃ y99, y99 = va_up v 4 (upd (v 4) 0 (nI 0)) := ⟨_, rfl⟩
  have hE : mE G (mA ad (Sy cy ad cn ck v o) s.heap.size) s.heap ad (Sy cy ad cn ck kv1 o) H locs := by rw [hkv1]; exact (S_4u (upd_s _ _ _) ((upd_n _ _ (by decide)).trans hm1) ((upd_n _ _ (by decide)).trans hm2) ((upd_n _ _ (by decide)).trans rfl)) ▸ hE
  have kf2 : kv1 4 0 = nI 0 := by rw [hkv1, va_up_s, upd_s]
  have kf3 : kv1 4 1 = nI n := by rw [hkv1, va_up_s, upd_n _ _ (by decide)]; exact hm1
  have kf4 : kv1 4 2 = nI k := by rw [hkv1, va_up_s, upd_n _ _ (by decide)]; exact hm2
  have kf5 : kv1 4 10 = v 4 10 := by rw [hkv1, va_up_s, upd_n _ _ (by decide)]
  refine lv_aload_n hx hb dX3_about_5 rfl (lv_at hl 0 rfl) ?_
  refine lv_iload_n hx hb dX3_about_6 rfl (lv_at hl 1 rfl) ?_
  refine va_calli (va_runV (As := [.int (nI j)]) (rest := []) ⟨hx, hb, hml, hown, hts⟩ (c_X3_isSeal l G cy ad cn ck n k kv1 o hn hk _ kf3 kf4 j h_j) (cwV 1 hts gX3_about_X3_isSeal rfl rfl rfl (by decide +kernel) ⟨Nat.le_of_ble_eq_true rfl, Nat.le_of_ble_eq_true rfl⟩) (mP_V (r := (RX3, TX3, 11)) hN hE (S_4f kf2 kf3 kf4 kf5) rfl) rfl rfl hl.1 rfl (lv_room (Nat.le_of_ble_eq_true rfl)) dX3_about_7 ⟨Nat.le_of_ble_eq_true rfl, Nat.le_of_ble_eq_true rfl⟩) hE.2.2.2 (fun q _ h => mE_A hE q h) (mE_A hE) (fun r uq tq H locs ht hvm hw hB hz1 hk1 hS => ?_)
  obtain ⟨rfl, rfl⟩ := hw
  have hE : mE G (mA ad (Sy cy ad cn ck v o) s.heap.size) s.heap ad (Sy cy ad cn ck kv1 o) H locs := mE_call hE hB ht hS
  refine lv_if_eq (tgt := 31) hx hb dX3_about_10 (by decide) (fun c6 => ?_) (fun c6 => ?_)
  · skip
    have c6 := (mz_eq (by omega)).mp c6
    exfalso; omega
  · skip
    have c6 : ¬ 1 = 0 := fun h9 => c6 ((mz_eq (by omega)).mpr h9)
    refine lv_iload_n hx hb dX3_about_13 rfl (lv_at hl 2 rfl) ?_
    refine lv_iconst (v := nI 0) hx hb dX3_about_14 (by decide) ?_
    refine lv_iconst (v := nI 3) hx hb dX3_about_15 (by decide) ?_
    refine va_calli (va_runS (As := [.int x, .int (nI 0), .int (nI 3)]) (rest := []) ⟨hx, hb, hml, hown, hts⟩ (x_X3_isIn l G cy ad (Sy cy ad cn ck kv1 o) _ x (nI 0) (nI 3) (mi_bad hbad rfl (by decide))) (va_cwS 3 hts gX3_about_X3_isIn rfl rfl rfl (by decide +kernel) ⟨Nat.le_of_ble_eq_true rfl, Nat.le_of_ble_eq_true rfl⟩) (mP_S hN hE) rfl rfl hl.1 rfl (lv_room (Nat.le_of_ble_eq_true rfl)) dX3_about_16 ⟨Nat.le_of_ble_eq_true rfl, Nat.le_of_ble_eq_true rfl⟩) hE.2.2.2 (fun q _ h => mE_A hE q h) (mE_A hE) (fun r uq tq H locs ht hvm hw hB hz1 hk1 hS => ?_)
    obtain ⟨rfl, rfl⟩ := hw
    have hE : mE G (mA ad (Sy cy ad cn ck v o) s.heap.size) s.heap ad (Sy cy ad cn ck kv1 o) H locs := mE_call hE hB ht hS
    refine lv_if_eq (tgt := 31) hx hb dX3_about_19 (by decide) (fun c7 => ?_) (fun c7 => ?_)
    · skip
      have c7 := (mz_eq (by omega)).mp c7
      refine lv_aload_n hx hb dX3_about_31 rfl (lv_at hl 0 rfl) ?_
      refine lv_iconst (v := nI 1) hx hb dX3_about_32 (by decide) ?_
      refine va_calli (va_runV (As := [.int (nI 1)]) (rest := []) ⟨hx, hb, hml, hown, hts⟩ (c_X3_fail l G cy ad cn ck n k kv1 o hn hk _ kf3 kf4 (nI 1)) (cwV 1 hts gX3_about_X3_fail rfl rfl rfl (by decide +kernel) ⟨Nat.le_of_ble_eq_true rfl, Nat.le_of_ble_eq_true rfl⟩) (mP_V (r := (RX3, TX3, 11)) hN hE (S_4f kf2 kf3 kf4 kf5) rfl) rfl rfl hl.1 rfl (lv_room (Nat.le_of_ble_eq_true rfl)) dX3_about_33 ⟨Nat.le_of_ble_eq_true rfl, Nat.le_of_ble_eq_true rfl⟩) hE.2.2.2 (fun q _ h => mE_A hE q h) (mE_A hE) (fun r uq tq H locs ht hvm hw hB hz1 hk1 hS => ?_)
      obtain ⟨rfl, kv8, rfl, kq9⟩ := hw
      have hE : mE G (mA ad (Sy cy ad cn ck v o) s.heap.size) s.heap ad (Sy cy ad cn ck kv8 o) H locs := mE_call hE hB ht hS
      have kf10 : kv8 4 0 = nI 1 := kq9.2.1
      have kf11 : kv8 4 1 = nI n := (kq9.2.2.1).trans kf3
      have kf12 : kv8 4 2 = nI k := (kq9.2.2.2).trans kf4
      exact mx_iret hx hb hr hE hlocks ⟨rfl, ⟨kv8, rfl, fun w h4 h10 h11 => ((kq9.1 w h4 h10 h11).trans (show kv1 w = v w by rw [hkv1, va_up_n _ _ h4])), kf10, (kf11.trans hm1.symm), (kf12.trans hm2.symm)⟩⟩ dX3_about_36
    · skip
      have c7 : ¬ 0 = 0 := fun h9 => c7 ((mz_eq (by omega)).mpr h9)
      exfalso; omega

set_option maxHeartbeats 4000000 in
set_option maxRecDepth 100000 in
/-- count -/
theorem c_X3_count (l : Launch) (G : va_G) (cy : Nat → ClassId) (ad : Nat → Nat) (cn ck n k : Nat) (v : Nat → Nat → Int32) (o : Nat → Int64) (hn : n ≤ 6) (hk : k ≤ 20) (sz : Nat) (hm1 : v 4 1 = nI n) (hm2 : v 4 2 = nI k) (t9 : Nat) (ht9 : t9 < 4) {b : Nat → Nat → Int32} (h5 : v 5 = b 5) (h6 : v 6 = b 6) : mMi l yX3_count wsX3_count ({ frames := 11, cells := 0, slots := 0, locals := 260 }) G cy ad (Sy cy ad cn ck v o) sz [.ref (ad 4), .int (nI t9)] 0 0 (fun (r : Int32) u => r = mCount (mVw b) n k t9 ∧ ∃ v' : Nat → Nat → Int32, u = (ad, Sy cy ad cn ck v' o) ∧ mQT v v' (nI 0)) := by
  refine Met.ofW (cc := cX3_count) (maxL := 2) (ret := (some .int)) (by decide) rfl ?_
  intro p e s m args below meth c s₁ B hml hv
  obtain ⟨rfl, hv⟩ := hv
  have hsz := hv.1
  subst hsz
  have hN := hv.2.2
  have hE := mP_E hv
  have hx := B.exec
  have hb := B.bytes
  have hr := B.returns
  have hts := atoms_spec (ws := wsX3_count) B.pre
  have hown : s.vm.findClass RX3 = some m.cls := findClass_of_methodNamed B.named
  have hlocks := B.notSynchronized
  have hiX3 : ∀ w ∈ wsX30, w ∈ wsX3_count := by decide +kernel
  have hl := lv_entry ([.ref (ad 4), .int (nI t9)]) (n := 2) (Nat.le_of_ble_eq_true rfl)
  rw [lg_entry_eq]
  generalize (lg_sl ([.ref (ad 4), .int (nI t9)]) ++ List.replicate (2 - (lg_sl ([.ref (ad 4), .int (nI t9)])).length) Slot.unset).toArray = ls at hl ⊢
  have hl : lv_has ls 2 [(0, .ref (ad 4)), (1, .int (nI t9))] := hl
  refine lv_aload_n hx hb dX3_count_0 rfl (lv_at hl 0 rfl) ?_
  refine lv_iconst (v := nI 0) hx hb dX3_count_1 (by decide) ?_
  refine mx_put (ci := 3) (v := .int (nI 0)) (ty := .int) (C := RX3) (T := TX3) (N := 11) hx hb hts hiX3 tyX3 tyX3_ok nmX3 hown hN hE (S_4f rfl hm1 hm2 rfl) rfl 0 (by decide) (hts (.fieldLink RX3 31 "SealedCupboardsModel" "thrown" "I") (by decide +kernel)) (fun _ h9 => h9) rfl (by decide +kernel) rfl rfl (Nat.le_of_ble_eq_true rfl) dX3_count_2 (fun H locs hE => ?_)
  obtain ⟨kv1, hkv1⟩ : ∃ y99, y99 = va_up v 4 (upd (v 4) 0 (nI 0)) := ⟨_, rfl⟩
  have hE : mE G (mA ad (Sy cy ad cn ck v o) s.heap.size) s.heap ad (Sy cy ad cn ck kv1 o) H locs := by rw [hkv1]; exact (S_4u (upd_s _ _ _) ((upd_n _ _ (by decide)).trans hm1) ((upd_n _ _ (by decide)).trans hm2) ((upd_n _ _ (by decide)).trans rfl)) ▸ hE
  have kf2 : kv1 4 0 = nI 0 := by rw [hkv1, va_up_s, upd_s]
  have kf3 : kv1 4 1 = nI n := by rw [hkv1, va_up_s, upd_n _ _ (by decide)]; exact hm1
  have kf4 : kv1 4 2 = nI k := by rw [hkv1, va_up_s, upd_n _ _ (by decide)]; exact hm2
  have kf5 : kv1 4 10 = v 4 10 := by rw [hkv1, va_up_s, upd_n _ _ (by decide)]
  have ke6 : kv1 5 = b 5 := by rw [hkv1, va_up_n _ _ (by omega)]; exact h5
  have ke7 : kv1 6 = b 6 := by rw [hkv1, va_up_n _ _ (by omega)]; exact h6
  refine lv_iload_n hx hb dX3_count_5 rfl (lv_at hl 1 rfl) ?_
  refine lv_iconst (v := nI 0) hx hb dX3_count_6 (by decide) ?_
  refine lv_iconst (v := nI 3) hx hb dX3_count_7 (by decide) ?_
  refine va_calli (va_runS (As := [.int (nI t9), .int (nI 0), .int (nI 3)]) (rest := []) ⟨hx, hb, hml, hown, hts⟩ (c_X3_isIn l G cy ad (Sy cy ad cn ck kv1 o) _ t9 0 3 (by omega) (by omega) (by omega)) (va_cwS 3 hts gX3_count_X3_isIn rfl rfl rfl (by decide +kernel) ⟨Nat.le_of_ble_eq_true rfl, Nat.le_of_ble_eq_true rfl⟩) (mP_S hN hE) rfl rfl hl.1 rfl (lv_room (Nat.le_of_ble_eq_true rfl)) dX3_count_8 ⟨Nat.le_of_ble_eq_true rfl, Nat.le_of_ble_eq_true rfl⟩) hE.2.2.2 (fun q _ h => mE_A hE q h) (mE_A hE) (fun r uq tq H locs ht hvm hw hB hz1 hk1 hS => ?_)
  obtain ⟨rfl, rfl⟩ := hw
  have hE : mE G (mA ad (Sy cy ad cn ck v o) s.heap.size) s.heap ad (Sy cy ad cn ck kv1 o) H locs := mE_call hE hB ht hS
  refine lv_if_eq (tgt := 22) hx hb dX3_count_11 (by decide) (fun c8 => ?_) (fun c8 => ?_)
  · skip
    have c8 := (mz_eq (by omega)).mp c8
    exfalso; omega
  · skip
    have c8 : ¬ 1 = 0 := fun h9 => c8 ((mz_eq (by omega)).mpr h9)
    refine lv_aload_n hx hb dX3_count_14 rfl (lv_at hl 0 rfl) ?_
    refine lv_iload_n hx hb dX3_count_15 rfl (lv_at hl 1 rfl) ?_
    refine va_calli (va_runV (As := [.int (nI t9)]) (rest := []) ⟨hx, hb, hml, hown, hts⟩ (c_X3_counted l G cy ad cn ck n k kv1 o hn hk _ kf3 kf4 t9 (by omega) ke6 ke7) (cwV 1 hts gX3_count_X3_counted rfl rfl rfl (by decide +kernel) ⟨Nat.le_of_ble_eq_true rfl, Nat.le_of_ble_eq_true rfl⟩) (mP_V (r := (RX3, TX3, 11)) hN hE (S_4f kf2 kf3 kf4 kf5) rfl) rfl rfl hl.1 rfl (lv_room (Nat.le_of_ble_eq_true rfl)) dX3_count_16 ⟨Nat.le_of_ble_eq_true rfl, Nat.le_of_ble_eq_true rfl⟩) hE.2.2.2 (fun q _ h => mE_A hE q h) (mE_A hE) (fun r uq tq H locs ht hvm hw hB hz1 hk1 hS => ?_)
    obtain ⟨rfl, kv9, rfl, kq10⟩ := hw
    have hE : mE G (mA ad (Sy cy ad cn ck v o) s.heap.size) s.heap ad (Sy cy ad cn ck kv9 o) H locs := mE_call hE hB ht hS
    have ke11 : kv9 5 = b 5 := (kq10.1 5 (by decide) (by decide) (by decide)).trans ke6
    have ke12 : kv9 6 = b 6 := (kq10.1 6 (by decide) (by decide) (by decide)).trans ke7
    have kf13 : kv9 4 0 = nI 0 := (kq10.2.1).trans kf2
    have kf14 : kv9 4 1 = nI n := (kq10.2.2.1).trans kf3
    have kf15 : kv9 4 2 = nI k := (kq10.2.2.2).trans kf4
    refine lv_goto (tgt := 27) hx hb dX3_count_19 (by decide) ?_
    exact mx_iret hx hb hr hE hlocks ⟨rfl, ⟨kv9, rfl, fun w h4 h10 h11 => ((kq10.1 w h4 h10 h11).trans (show kv1 w = v w by rw [hkv1, va_up_n _ _ h4])), kf13, (kf14.trans hm1.symm), (kf15.trans hm2.symm)⟩⟩ dX3_count_27

set_option maxHeartbeats 4000000 in
set_option maxRecDepth 100000 in
/-- count -/
theorem x_X3_count1 (l : Launch) (G : va_G) (cy : Nat → ClassId) (ad : Nat → Nat) (cn ck n k : Nat) (v : Nat → Nat → Int32) (o : Nat → Int64) (hn : n ≤ 6) (hk : k ≤ 20) (sz : Nat) (hm1 : v 4 1 = nI n) (hm2 : v 4 2 = nI k) (x : Int32) (hbad : x < 0 ∨ nI 4 ≤ x) : mMi l yX3_count wsX3_count ({ frames := 11, cells := 0, slots := 0, locals := 260 }) G cy ad (Sy cy ad cn ck v o) sz [.ref (ad 4), .int x] 0 0 (fun (r : Int32) u => r = nI 0 ∧ ∃ v' : Nat → Nat → Int32, u = (ad, Sy cy ad cn ck v' o) ∧ mQT v v' (nI 1)) := by
  refine Met.ofW (cc := cX3_count) (maxL := 2) (ret := (some .int)) (by decide) rfl ?_
  intro p e s m args below meth c s₁ B hml hv
  obtain ⟨rfl, hv⟩ := hv
  have hsz := hv.1
  subst hsz
  have hN := hv.2.2
  have hE := mP_E hv
  have hx := B.exec
  have hb := B.bytes
  have hr := B.returns
  have hts := atoms_spec (ws := wsX3_count) B.pre
  have hown : s.vm.findClass RX3 = some m.cls := findClass_of_methodNamed B.named
  have hlocks := B.notSynchronized
  have hiX3 : ∀ w ∈ wsX30, w ∈ wsX3_count := by decide +kernel
  have hl := lv_entry ([.ref (ad 4), .int x]) (n := 2) (Nat.le_of_ble_eq_true rfl)
  rw [lg_entry_eq]
  generalize (lg_sl ([.ref (ad 4), .int x]) ++ List.replicate (2 - (lg_sl ([.ref (ad 4), .int x])).length) Slot.unset).toArray = ls at hl ⊢
  have hl : lv_has ls 2 [(0, .ref (ad 4)), (1, .int x)] := hl
  refine lv_aload_n hx hb dX3_count_0 rfl (lv_at hl 0 rfl) ?_
  refine lv_iconst (v := nI 0) hx hb dX3_count_1 (by decide) ?_
  refine mx_put (ci := 3) (v := .int (nI 0)) (ty := .int) (C := RX3) (T := TX3) (N := 11) hx hb hts hiX3 tyX3 tyX3_ok nmX3 hown hN hE (S_4f rfl hm1 hm2 rfl) rfl 0 (by decide) (hts (.fieldLink RX3 31 "SealedCupboardsModel" "thrown" "I") (by decide +kernel)) (fun _ h9 => h9) rfl (by decide +kernel) rfl rfl (Nat.le_of_ble_eq_true rfl) dX3_count_2 (fun H locs hE => ?_)
  obtain ⟨kv1, hkv1⟩ : ∃ y99, y99 = va_up v 4 (upd (v 4) 0 (nI 0)) := ⟨_, rfl⟩
  have hE : mE G (mA ad (Sy cy ad cn ck v o) s.heap.size) s.heap ad (Sy cy ad cn ck kv1 o) H locs := by rw [hkv1]; exact (S_4u (upd_s _ _ _) ((upd_n _ _ (by decide)).trans hm1) ((upd_n _ _ (by decide)).trans hm2) ((upd_n _ _ (by decide)).trans rfl)) ▸ hE
  have kf2 : kv1 4 0 = nI 0 := by rw [hkv1, va_up_s, upd_s]
  have kf3 : kv1 4 1 = nI n := by rw [hkv1, va_up_s, upd_n _ _ (by decide)]; exact hm1
  have kf4 : kv1 4 2 = nI k := by rw [hkv1, va_up_s, upd_n _ _ (by decide)]; exact hm2
  have kf5 : kv1 4 10 = v 4 10 := by rw [hkv1, va_up_s, upd_n _ _ (by decide)]
  refine lv_iload_n hx hb dX3_count_5 rfl (lv_at hl 1 rfl) ?_
  refine lv_iconst (v := nI 0) hx hb dX3_count_6 (by decide) ?_
  refine lv_iconst (v := nI 3) hx hb dX3_count_7 (by decide) ?_
  refine va_calli (va_runS (As := [.int x, .int (nI 0), .int (nI 3)]) (rest := []) ⟨hx, hb, hml, hown, hts⟩ (x_X3_isIn l G cy ad (Sy cy ad cn ck kv1 o) _ x (nI 0) (nI 3) (mi_bad hbad rfl (by decide))) (va_cwS 3 hts gX3_count_X3_isIn rfl rfl rfl (by decide +kernel) ⟨Nat.le_of_ble_eq_true rfl, Nat.le_of_ble_eq_true rfl⟩) (mP_S hN hE) rfl rfl hl.1 rfl (lv_room (Nat.le_of_ble_eq_true rfl)) dX3_count_8 ⟨Nat.le_of_ble_eq_true rfl, Nat.le_of_ble_eq_true rfl⟩) hE.2.2.2 (fun q _ h => mE_A hE q h) (mE_A hE) (fun r uq tq H locs ht hvm hw hB hz1 hk1 hS => ?_)
  obtain ⟨rfl, rfl⟩ := hw
  have hE : mE G (mA ad (Sy cy ad cn ck v o) s.heap.size) s.heap ad (Sy cy ad cn ck kv1 o) H locs := mE_call hE hB ht hS
  refine lv_if_eq (tgt := 22) hx hb dX3_count_11 (by decide) (fun c6 => ?_) (fun c6 => ?_)
  · skip
    have c6 := (mz_eq (by omega)).mp c6
    refine lv_aload_n hx hb dX3_count_22 rfl (lv_at hl 0 rfl) ?_
    refine lv_iconst (v := nI 1) hx hb dX3_count_23 (by decide) ?_
    refine va_calli (va_runV (As := [.int (nI 1)]) (rest := []) ⟨hx, hb, hml, hown, hts⟩ (c_X3_fail l G cy ad cn ck n k kv1 o hn hk _ kf3 kf4 (nI 1)) (cwV 1 hts gX3_count_X3_fail rfl rfl rfl (by decide +kernel) ⟨Nat.le_of_ble_eq_true rfl, Nat.le_of_ble_eq_true rfl⟩) (mP_V (r := (RX3, TX3, 11)) hN hE (S_4f kf2 kf3 kf4 kf5) rfl) rfl rfl hl.1 rfl (lv_room (Nat.le_of_ble_eq_true rfl)) dX3_count_24 ⟨Nat.le_of_ble_eq_true rfl, Nat.le_of_ble_eq_true rfl⟩) hE.2.2.2 (fun q _ h => mE_A hE q h) (mE_A hE) (fun r uq tq H locs ht hvm hw hB hz1 hk1 hS => ?_)
    obtain ⟨rfl, kv7, rfl, kq8⟩ := hw
    have hE : mE G (mA ad (Sy cy ad cn ck v o) s.heap.size) s.heap ad (Sy cy ad cn ck kv7 o) H locs := mE_call hE hB ht hS
    have kf9 : kv7 4 0 = nI 1 := kq8.2.1
    have kf10 : kv7 4 1 = nI n := (kq8.2.2.1).trans kf3
    have kf11 : kv7 4 2 = nI k := (kq8.2.2.2).trans kf4
    exact mx_iret hx hb hr hE hlocks ⟨rfl, ⟨kv7, rfl, fun w h4 h10 h11 => ((kq8.1 w h4 h10 h11).trans (show kv1 w = v w by rw [hkv1, va_up_n _ _ h4])), kf9, (kf10.trans hm1.symm), (kf11.trans hm2.symm)⟩⟩ dX3_count_27
  · skip
    have c6 : ¬ 0 = 0 := fun h9 => c6 ((mz_eq (by omega)).mpr h9)
    exfalso; omega

set_option maxHeartbeats 4000000 in
set_option maxRecDepth 100000 in
/-- proof -/
theorem c_X3_proof (l : Launch) (G : va_G) (cy : Nat → ClassId) (ad : Nat → Nat) (cn ck n k : Nat) (v : Nat → Nat → Int32) (o : Nat → Int64) (hn : n ≤ 6) (hk : k ≤ 20) (sz : Nat) (hm1 : v 4 1 = nI n) (hm2 : v 4 2 = nI k) (i d : Nat) (h_i : i < n) (hd : d < 16) (t9 : Nat) (ht9 : t9 < 4) {f5 : Nat → Int32} (h5 : v 5 = f5) : mMi l yX3_proof wsX3_proof ({ frames := 9, cells := 0, slots := 0, locals := 180 }) G cy ad (Sy cy ad cn ck v o) sz [.ref (ad 4), .int (nI i), .int (nI d), .int (nI t9)] 0 0 (fun (r : Int32) u => r = mS (fun d => f5 (16 * i + d)) (mBes d t9) ∧ ∃ v' : Nat → Nat → Int32, u = (ad, Sy cy ad cn ck v' o) ∧ mQT v v' (nI 0)) := by
  refine Met.ofW (cc := cX3_proof) (maxL := 4) (ret := (some .int)) (by decide) rfl ?_
  intro p e s m args below meth c s₁ B hml hv
  obtain ⟨rfl, hv⟩ := hv
  have hsz := hv.1
  subst hsz
  have hN := hv.2.2
  have hE := mP_E hv
  have hx := B.exec
  have hb := B.bytes
  have hr := B.returns
  have hts := atoms_spec (ws := wsX3_proof) B.pre
  have hown : s.vm.findClass RX3 = some m.cls := findClass_of_methodNamed B.named
  have hlocks := B.notSynchronized
  have hiX3 : ∀ w ∈ wsX30, w ∈ wsX3_proof := by decide +kernel
  have hl := lv_entry ([.ref (ad 4), .int (nI i), .int (nI d), .int (nI t9)]) (n := 4) (Nat.le_of_ble_eq_true rfl)
  rw [lg_entry_eq]
  generalize (lg_sl ([.ref (ad 4), .int (nI i), .int (nI d), .int (nI t9)]) ++ List.replicate (4 - (lg_sl ([.ref (ad 4), .int (nI i), .int (nI d), .int (nI t9)])).length) Slot.unset).toArray = ls at hl ⊢
  have hl : lv_has ls 4 [(0, .ref (ad 4)), (1, .int (nI i)), (2, .int (nI d)), (3, .int (nI t9))] := hl
  refine lv_aload_n hx hb dX3_proof_0 rfl (lv_at hl 0 rfl) ?_
  refine lv_iconst (v := nI 0) hx hb dX3_proof_1 (by decide) ?_
  refine mx_put (ci := 3) (v := .int (nI 0)) (ty := .int) (C := RX3) (T := TX3) (N := 11) hx hb hts hiX3 tyX3 tyX3_ok nmX3 hown hN hE (S_4f rfl hm1 hm2 rfl) rfl 0 (by decide) (hts (.fieldLink RX3 31 "SealedCupboardsModel" "thrown" "I") (by decide +kernel)) (fun _ h9 => h9) rfl (by decide +kernel) rfl rfl (Nat.le_of_ble_eq_true rfl) dX3_proof_2 (fun H locs hE => ?_)
  obtain ⟨kv1, hkv1⟩ : ∃ y99, y99 = va_up v 4 (upd (v 4) 0 (nI 0)) := ⟨_, rfl⟩
  have hE : mE G (mA ad (Sy cy ad cn ck v o) s.heap.size) s.heap ad (Sy cy ad cn ck kv1 o) H locs := by rw [hkv1]; exact (S_4u (upd_s _ _ _) ((upd_n _ _ (by decide)).trans hm1) ((upd_n _ _ (by decide)).trans hm2) ((upd_n _ _ (by decide)).trans rfl)) ▸ hE
  have kf2 : kv1 4 0 = nI 0 := by rw [hkv1, va_up_s, upd_s]
  have kf3 : kv1 4 1 = nI n := by rw [hkv1, va_up_s, upd_n _ _ (by decide)]; exact hm1
  have kf4 : kv1 4 2 = nI k := by rw [hkv1, va_up_s, upd_n _ _ (by decide)]; exact hm2
  have kf5 : kv1 4 10 = v 4 10 := by rw [hkv1, va_up_s, upd_n _ _ (by decide)]
  have ke6 : kv1 5 = f5 := by rw [hkv1, va_up_n _ _ (by omega)]; exact h5
  refine lv_aload_n hx hb dX3_proof_5 rfl (lv_at hl 0 rfl) ?_
  refine lv_iload_n hx hb dX3_proof_6 rfl (lv_at hl 1 rfl) ?_
  refine va_calli (va_runV (As := [.int (nI i)]) (rest := []) ⟨hx, hb, hml, hown, hts⟩ (c_X3_isCupboard l G cy ad cn ck n k kv1 o hn hk _ kf3 kf4 i h_i) (cwV 1 hts gX3_proof_X3_isCupboard rfl rfl rfl (by decide +kernel) ⟨Nat.le_of_ble_eq_true rfl, Nat.le_of_ble_eq_true rfl⟩) (mP_V (r := (RX3, TX3, 11)) hN hE (S_4f kf2 kf3 kf4 kf5) rfl) rfl rfl hl.1 rfl (lv_room (Nat.le_of_ble_eq_true rfl)) dX3_proof_7 ⟨Nat.le_of_ble_eq_true rfl, Nat.le_of_ble_eq_true rfl⟩) hE.2.2.2 (fun q _ h => mE_A hE q h) (mE_A hE) (fun r uq tq H locs ht hvm hw hB hz1 hk1 hS => ?_)
  obtain ⟨rfl, rfl⟩ := hw
  have hE : mE G (mA ad (Sy cy ad cn ck v o) s.heap.size) s.heap ad (Sy cy ad cn ck kv1 o) H locs := mE_call hE hB ht hS
  refine lv_if_eq (tgt := 29) hx hb dX3_proof_10 (by decide) (fun c7 => ?_) (fun c7 => ?_)
  · skip
    have c7 := (mz_eq (by omega)).mp c7
    exfalso; omega
  · skip
    have c7 : ¬ 1 = 0 := fun h9 => c7 ((mz_eq (by omega)).mpr h9)
    refine lv_iload_n hx hb dX3_proof_13 rfl (lv_at hl 2 rfl) ?_
    refine va_calli (va_runS (As := [.int (nI d)]) (rest := []) ⟨hx, hb, hml, hown, hts⟩ (c_X3_isDrawer l G cy ad (Sy cy ad cn ck kv1 o) _ d (by omega)) (va_cwS 1 hts gX3_proof_X3_isDrawer rfl rfl rfl (by decide +kernel) ⟨Nat.le_of_ble_eq_true rfl, Nat.le_of_ble_eq_true rfl⟩) (mP_S hN hE) rfl rfl hl.1 rfl (lv_room (Nat.le_of_ble_eq_true rfl)) dX3_proof_14 ⟨Nat.le_of_ble_eq_true rfl, Nat.le_of_ble_eq_true rfl⟩) hE.2.2.2 (fun q _ h => mE_A hE q h) (mE_A hE) (fun r uq tq H locs ht hvm hw hB hz1 hk1 hS => ?_)
    obtain ⟨rfl, rfl⟩ := hw
    have hE : mE G (mA ad (Sy cy ad cn ck v o) s.heap.size) s.heap ad (Sy cy ad cn ck kv1 o) H locs := mE_call hE hB ht hS
    refine lv_if_eq (tgt := 29) hx hb dX3_proof_17 (by decide) (fun c8 => ?_) (fun c8 => ?_)
    · skip
      have c8 := (mz_eq (by omega)).mp c8
      exfalso; omega
    · skip
      have c8 : ¬ 1 = 0 := fun h9 => c8 ((mz_eq (by omega)).mpr h9)
      refine lv_iload_n hx hb dX3_proof_20 rfl (lv_at hl 3 rfl) ?_
      refine lv_iconst (v := nI 0) hx hb dX3_proof_21 (by decide) ?_
      refine lv_iconst (v := nI 3) hx hb dX3_proof_22 (by decide) ?_
      refine va_calli (va_runS (As := [.int (nI t9), .int (nI 0), .int (nI 3)]) (rest := []) ⟨hx, hb, hml, hown, hts⟩ (c_X3_isIn l G cy ad (Sy cy ad cn ck kv1 o) _ t9 0 3 (by omega) (by omega) (by omega)) (va_cwS 3 hts gX3_proof_X3_isIn rfl rfl rfl (by decide +kernel) ⟨Nat.le_of_ble_eq_true rfl, Nat.le_of_ble_eq_true rfl⟩) (mP_S hN hE) rfl rfl hl.1 rfl (lv_room (Nat.le_of_ble_eq_true rfl)) dX3_proof_23 ⟨Nat.le_of_ble_eq_true rfl, Nat.le_of_ble_eq_true rfl⟩) hE.2.2.2 (fun q _ h => mE_A hE q h) (mE_A hE) (fun r uq tq H locs ht hvm hw hB hz1 hk1 hS => ?_)
      obtain ⟨rfl, rfl⟩ := hw
      have hE : mE G (mA ad (Sy cy ad cn ck v o) s.heap.size) s.heap ad (Sy cy ad cn ck kv1 o) H locs := mE_call hE hB ht hS
      refine lv_if_ne (tgt := 35) hx hb dX3_proof_26 (by decide) (fun c9 => ?_) (fun c9 => ?_)
      · skip
        have c9 : ¬ 1 = 0 := fun h9 => c9 ((mz_eq (by omega)).mpr h9)
        refine lv_aload_n hx hb dX3_proof_35 rfl (lv_at hl 0 rfl) ?_
        refine lv_iload_n hx hb dX3_proof_36 rfl (lv_at hl 1 rfl) ?_
        refine lv_aload_n hx hb dX3_proof_37 rfl (lv_at hl 0 rfl) ?_
        refine va_get (D := G) (ci := 3) (v := .ref (ad 10)) (C := RX3) (T := TX3) (N := 11) hx hb hts hiX3 hown hN.1 (mE_P1 hE (S_4f kf2 kf3 kf4 kf5)) 0 rfl rfl 8 (by decide) (hts (.fieldLink RX3 25 "SealedCupboardsModel" "sums" "[I") (by decide +kernel)) (fun _ h9 => h9) rfl dX3_proof_38 ?_
        refine va_callv (va_runV (As := [.int (nI i), .ref (ad 10)]) (rest := []) ⟨hx, hb, hml, hown, hts⟩ (c_X3_reckon l G cy ad cn ck n k kv1 o hn hk _ kf3 kf4 i 10 h_i (fun g => sy_10) (by decide) (by decide) ke6) (cwV 2 hts gX3_proof_X3_reckon rfl rfl rfl (by decide +kernel) ⟨Nat.le_of_ble_eq_true rfl, Nat.le_of_ble_eq_true rfl⟩) (mP_V (r := (RX3, TX3, 11)) hN hE (S_4f kf2 kf3 kf4 kf5) rfl) rfl rfl hl.1 rfl (lv_room (Nat.le_of_ble_eq_true rfl)) dX3_proof_41 ⟨Nat.le_of_ble_eq_true rfl, Nat.le_of_ble_eq_true rfl⟩) hE.2.2.2 (fun q _ h => mE_A hE q h) (mE_A hE) (fun uq tq H locs ht hvm hw hB hz1 hk1 hS => ?_)
        obtain ⟨kg10, rfl, kq11⟩ := hw
        have hE : mE G (mA ad (Sy cy ad cn ck v o) s.heap.size) s.heap ad (Sy cy ad cn ck (va_up kv1 10 kg10) o) H locs := mE_call hE hB ht hS
        obtain ⟨kv12, hkv12⟩ : ∃ y99, y99 = va_up kv1 10 kg10 := ⟨_, rfl⟩
        have hE : mE G (mA ad (Sy cy ad cn ck v o) s.heap.size) s.heap ad (Sy cy ad cn ck kv12 o) H locs := by rw [hkv12]; exact hE
        have ke13 : kv12 5 = f5 := by rw [hkv12, va_up_n _ _ (by omega)]; exact ke6
        have ke14 : kv12 10 = kg10 := by rw [hkv12, va_up_s]
        have kf15 : kv12 4 0 = nI 0 := by rw [hkv12, va_up_n _ _ (by omega)]; exact kf2
        have kf16 : kv12 4 1 = nI n := by rw [hkv12, va_up_n _ _ (by omega)]; exact kf3
        have kf17 : kv12 4 2 = nI k := by rw [hkv12, va_up_n _ _ (by omega)]; exact kf4
        have kf18 : kv12 4 10 = v 4 10 := by rw [hkv12, va_up_n _ _ (by omega)]; exact kf5
        refine lv_aload_n hx hb dX3_proof_44 rfl (lv_at hl 0 rfl) ?_
        refine va_get (D := G) (ci := 3) (v := .ref (ad 10)) (C := RX3) (T := TX3) (N := 11) hx hb hts hiX3 hown hN.1 (mE_P1 hE (S_4f kf15 kf16 kf17 kf18)) 0 rfl rfl 8 (by decide) (hts (.fieldLink RX3 25 "SealedCupboardsModel" "sums" "[I") (by decide +kernel)) (fun _ h9 => h9) rfl dX3_proof_45 ?_
        refine lv_iload_n hx hb dX3_proof_48 rfl (lv_at hl 2 rfl) ?_
        refine lv_iload_n hx hb dX3_proof_49 rfl (lv_at hl 3 rfl) ?_
        refine va_calli (va_runS (As := [.int (nI d), .int (nI t9)]) (rest := [.ref (ad 10)]) ⟨hx, hb, hml, hown, hts⟩ (c_X3_beside l G cy ad (Sy cy ad cn ck kv12 o) _ d t9 (by omega) (by omega)) (va_cwS 2 hts gX3_proof_X3_beside rfl rfl rfl (by decide +kernel) ⟨Nat.le_of_ble_eq_true rfl, Nat.le_of_ble_eq_true rfl⟩) (mP_S hN hE) rfl rfl hl.1 rfl (lv_room (Nat.le_of_ble_eq_true rfl)) dX3_proof_50 ⟨Nat.le_of_ble_eq_true rfl, Nat.le_of_ble_eq_true rfl⟩) hE.2.2.2 (fun q _ h => mE_A hE q h) (mE_A hE) (fun r uq tq H locs ht hvm hw hB hz1 hk1 hS => ?_)
        obtain ⟨rfl, rfl⟩ := hw
        have hE : mE G (mA ad (Sy cy ad cn ck v o) s.heap.size) s.heap ad (Sy cy ad cn ck kv12 o) H locs := mE_call hE hB ht hS
        refine mx_iald hx hb hN hE (S_10e ke14) (j := mBes d t9) rfl (mBes_lt d hd t9 ht9) (by decide) dX3_proof_53 ?_
        exact mx_iret hx hb hr hE hlocks ⟨mCon_S kq11 _ (mBes_pos d hd t9 ht9) (mBes_lt d hd t9 ht9), ⟨kv12, rfl, fun w h4 h10 h11 => ((show kv12 w = kv1 w by rw [hkv12, va_up_n _ _ h10]).trans (show kv1 w = v w by rw [hkv1, va_up_n _ _ h4])), kf15, (kf16.trans hm1.symm), (kf17.trans hm2.symm)⟩⟩ dX3_proof_54
      · skip
        have c9 := (mz_eq (by omega)).mp c9
        exfalso; omega

set_option maxHeartbeats 4000000 in
set_option maxRecDepth 100000 in
/-- proof -/
theorem x_X3_proof1 (l : Launch) (G : va_G) (cy : Nat → ClassId) (ad : Nat → Nat) (cn ck n k : Nat) (v : Nat → Nat → Int32) (o : Nat → Int64) (hn : n ≤ 6) (hk : k ≤ 20) (sz : Nat) (hm1 : v 4 1 = nI n) (hm2 : v 4 2 = nI k) (x : Int32) (hbad : x < 0 ∨ nI n ≤ x) (y z : Int32) : mMi l yX3_proof wsX3_proof ({ frames := 9, cells := 0, slots := 0, locals := 180 }) G cy ad (Sy cy ad cn ck v o) sz [.ref (ad 4), .int x, .int y, .int z] 0 0 (fun (r : Int32) u => r = nI 0 ∧ ∃ v' : Nat → Nat → Int32, u = (ad, Sy cy ad cn ck v' o) ∧ mQT v v' (nI 1)) := by
  refine Met.ofW (cc := cX3_proof) (maxL := 4) (ret := (some .int)) (by decide) rfl ?_
  intro p e s m args below meth c s₁ B hml hv
  obtain ⟨rfl, hv⟩ := hv
  have hsz := hv.1
  subst hsz
  have hN := hv.2.2
  have hE := mP_E hv
  have hx := B.exec
  have hb := B.bytes
  have hr := B.returns
  have hts := atoms_spec (ws := wsX3_proof) B.pre
  have hown : s.vm.findClass RX3 = some m.cls := findClass_of_methodNamed B.named
  have hlocks := B.notSynchronized
  have hiX3 : ∀ w ∈ wsX30, w ∈ wsX3_proof := by decide +kernel
  have hl := lv_entry ([.ref (ad 4), .int x, .int y, .int z]) (n := 4) (Nat.le_of_ble_eq_true rfl)
  rw [lg_entry_eq]
  generalize (lg_sl ([.ref (ad 4), .int x, .int y, .int z]) ++ List.replicate (4 - (lg_sl ([.ref (ad 4), .int x, .int y, .int z])).length) Slot.unset).toArray = ls at hl ⊢
  have hl : lv_has ls 4 [(0, .ref (ad 4)), (1, .int x), (2, .int y), (3, .int z)] := hl
  refine lv_aload_n hx hb dX3_proof_0 rfl (lv_at hl 0 rfl) ?_
  refine lv_iconst (v := nI 0) hx hb dX3_proof_1 (by decide) ?_
  refine mx_put (ci := 3) (v := .int (nI 0)) (ty := .int) (C := RX3) (T := TX3) (N := 11) hx hb hts hiX3 tyX3 tyX3_ok nmX3 hown hN hE (S_4f rfl hm1 hm2 rfl) rfl 0 (by decide) (hts (.fieldLink RX3 31 "SealedCupboardsModel" "thrown" "I") (by decide +kernel)) (fun _ h9 => h9) rfl (by decide +kernel) rfl rfl (Nat.le_of_ble_eq_true rfl) dX3_proof_2 (fun H locs hE => ?_)
  obtain ⟨kv1, hkv1⟩ : ∃ y99, y99 = va_up v 4 (upd (v 4) 0 (nI 0)) := ⟨_, rfl⟩
  have hE : mE G (mA ad (Sy cy ad cn ck v o) s.heap.size) s.heap ad (Sy cy ad cn ck kv1 o) H locs := by rw [hkv1]; exact (S_4u (upd_s _ _ _) ((upd_n _ _ (by decide)).trans hm1) ((upd_n _ _ (by decide)).trans hm2) ((upd_n _ _ (by decide)).trans rfl)) ▸ hE
  have kf2 : kv1 4 0 = nI 0 := by rw [hkv1, va_up_s, upd_s]
  have kf3 : kv1 4 1 = nI n := by rw [hkv1, va_up_s, upd_n _ _ (by decide)]; exact hm1
  have kf4 : kv1 4 2 = nI k := by rw [hkv1, va_up_s, upd_n _ _ (by decide)]; exact hm2
  have kf5 : kv1 4 10 = v 4 10 := by rw [hkv1, va_up_s, upd_n _ _ (by decide)]
  refine lv_aload_n hx hb dX3_proof_5 rfl (lv_at hl 0 rfl) ?_
  refine lv_iload_n hx hb dX3_proof_6 rfl (lv_at hl 1 rfl) ?_
  refine va_calli (va_runV (As := [.int x]) (rest := []) ⟨hx, hb, hml, hown, hts⟩ (x_X3_isCupboard l G cy ad cn ck n k kv1 o hn hk _ kf3 kf4 x hbad) (cwV 1 hts gX3_proof_X3_isCupboard rfl rfl rfl (by decide +kernel) ⟨Nat.le_of_ble_eq_true rfl, Nat.le_of_ble_eq_true rfl⟩) (mP_V (r := (RX3, TX3, 11)) hN hE (S_4f kf2 kf3 kf4 kf5) rfl) rfl rfl hl.1 rfl (lv_room (Nat.le_of_ble_eq_true rfl)) dX3_proof_7 ⟨Nat.le_of_ble_eq_true rfl, Nat.le_of_ble_eq_true rfl⟩) hE.2.2.2 (fun q _ h => mE_A hE q h) (mE_A hE) (fun r uq tq H locs ht hvm hw hB hz1 hk1 hS => ?_)
  obtain ⟨rfl, rfl⟩ := hw
  have hE : mE G (mA ad (Sy cy ad cn ck v o) s.heap.size) s.heap ad (Sy cy ad cn ck kv1 o) H locs := mE_call hE hB ht hS
  refine lv_if_eq (tgt := 29) hx hb dX3_proof_10 (by decide) (fun c6 => ?_) (fun c6 => ?_)
  · skip
    have c6 := (mz_eq (by omega)).mp c6
    refine lv_aload_n hx hb dX3_proof_29 rfl (lv_at hl 0 rfl) ?_
    refine lv_iconst (v := nI 1) hx hb dX3_proof_30 (by decide) ?_
    refine va_calli (va_runV (As := [.int (nI 1)]) (rest := []) ⟨hx, hb, hml, hown, hts⟩ (c_X3_fail l G cy ad cn ck n k kv1 o hn hk _ kf3 kf4 (nI 1)) (cwV 1 hts gX3_proof_X3_fail rfl rfl rfl (by decide +kernel) ⟨Nat.le_of_ble_eq_true rfl, Nat.le_of_ble_eq_true rfl⟩) (mP_V (r := (RX3, TX3, 11)) hN hE (S_4f kf2 kf3 kf4 kf5) rfl) rfl rfl hl.1 rfl (lv_room (Nat.le_of_ble_eq_true rfl)) dX3_proof_31 ⟨Nat.le_of_ble_eq_true rfl, Nat.le_of_ble_eq_true rfl⟩) hE.2.2.2 (fun q _ h => mE_A hE q h) (mE_A hE) (fun r uq tq H locs ht hvm hw hB hz1 hk1 hS => ?_)
    obtain ⟨rfl, kv7, rfl, kq8⟩ := hw
    have hE : mE G (mA ad (Sy cy ad cn ck v o) s.heap.size) s.heap ad (Sy cy ad cn ck kv7 o) H locs := mE_call hE hB ht hS
    have kf9 : kv7 4 0 = nI 1 := kq8.2.1
    have kf10 : kv7 4 1 = nI n := (kq8.2.2.1).trans kf3
    have kf11 : kv7 4 2 = nI k := (kq8.2.2.2).trans kf4
    exact mx_iret hx hb hr hE hlocks ⟨rfl, ⟨kv7, rfl, fun w h4 h10 h11 => ((kq8.1 w h4 h10 h11).trans (show kv1 w = v w by rw [hkv1, va_up_n _ _ h4])), kf9, (kf10.trans hm1.symm), (kf11.trans hm2.symm)⟩⟩ dX3_proof_34
  · skip
    have c6 : ¬ 0 = 0 := fun h9 => c6 ((mz_eq (by omega)).mpr h9)
    exfalso; omega

set_option maxHeartbeats 4000000 in
set_option maxRecDepth 100000 in
/-- proof -/
theorem x_X3_proof2 (l : Launch) (G : va_G) (cy : Nat → ClassId) (ad : Nat → Nat) (cn ck n k : Nat) (v : Nat → Nat → Int32) (o : Nat → Int64) (hn : n ≤ 6) (hk : k ≤ 20) (sz : Nat) (hm1 : v 4 1 = nI n) (hm2 : v 4 2 = nI k) (i : Nat) (h_i : i < n) (x : Int32) (hbad : x < 0 ∨ nI 16 ≤ x) (z : Int32) : mMi l yX3_proof wsX3_proof ({ frames := 9, cells := 0, slots := 0, locals := 180 }) G cy ad (Sy cy ad cn ck v o) sz [.ref (ad 4), .int (nI i), .int x, .int z] 0 0 (fun (r : Int32) u => r = nI 0 ∧ ∃ v' : Nat → Nat → Int32, u = (ad, Sy cy ad cn ck v' o) ∧ mQT v v' (nI 1)) := by
  refine Met.ofW (cc := cX3_proof) (maxL := 4) (ret := (some .int)) (by decide) rfl ?_
  intro p e s m args below meth c s₁ B hml hv
  obtain ⟨rfl, hv⟩ := hv
  have hsz := hv.1
  subst hsz
  have hN := hv.2.2
  have hE := mP_E hv
  have hx := B.exec
  have hb := B.bytes
  have hr := B.returns
  have hts := atoms_spec (ws := wsX3_proof) B.pre
  have hown : s.vm.findClass RX3 = some m.cls := findClass_of_methodNamed B.named
  have hlocks := B.notSynchronized
  have hiX3 : ∀ w ∈ wsX30, w ∈ wsX3_proof := by decide +kernel
  have hl := lv_entry ([.ref (ad 4), .int (nI i), .int x, .int z]) (n := 4) (Nat.le_of_ble_eq_true rfl)
  rw [lg_entry_eq]
  generalize (lg_sl ([.ref (ad 4), .int (nI i), .int x, .int z]) ++ List.replicate (4 - (lg_sl ([.ref (ad 4), .int (nI i), .int x, .int z])).length) Slot.unset).toArray = ls at hl ⊢
  have hl : lv_has ls 4 [(0, .ref (ad 4)), (1, .int (nI i)), (2, .int x), (3, .int z)] := hl
  refine lv_aload_n hx hb dX3_proof_0 rfl (lv_at hl 0 rfl) ?_
  refine lv_iconst (v := nI 0) hx hb dX3_proof_1 (by decide) ?_
  refine mx_put (ci := 3) (v := .int (nI 0)) (ty := .int) (C := RX3) (T := TX3) (N := 11) hx hb hts hiX3 tyX3 tyX3_ok nmX3 hown hN hE (S_4f rfl hm1 hm2 rfl) rfl 0 (by decide) (hts (.fieldLink RX3 31 "SealedCupboardsModel" "thrown" "I") (by decide +kernel)) (fun _ h9 => h9) rfl (by decide +kernel) rfl rfl (Nat.le_of_ble_eq_true rfl) dX3_proof_2 (fun H locs hE => ?_)
  obtain ⟨kv1, hkv1⟩ : ∃ y99, y99 = va_up v 4 (upd (v 4) 0 (nI 0)) := ⟨_, rfl⟩
  have hE : mE G (mA ad (Sy cy ad cn ck v o) s.heap.size) s.heap ad (Sy cy ad cn ck kv1 o) H locs := by rw [hkv1]; exact (S_4u (upd_s _ _ _) ((upd_n _ _ (by decide)).trans hm1) ((upd_n _ _ (by decide)).trans hm2) ((upd_n _ _ (by decide)).trans rfl)) ▸ hE
  have kf2 : kv1 4 0 = nI 0 := by rw [hkv1, va_up_s, upd_s]
  have kf3 : kv1 4 1 = nI n := by rw [hkv1, va_up_s, upd_n _ _ (by decide)]; exact hm1
  have kf4 : kv1 4 2 = nI k := by rw [hkv1, va_up_s, upd_n _ _ (by decide)]; exact hm2
  have kf5 : kv1 4 10 = v 4 10 := by rw [hkv1, va_up_s, upd_n _ _ (by decide)]
  refine lv_aload_n hx hb dX3_proof_5 rfl (lv_at hl 0 rfl) ?_
  refine lv_iload_n hx hb dX3_proof_6 rfl (lv_at hl 1 rfl) ?_
  refine va_calli (va_runV (As := [.int (nI i)]) (rest := []) ⟨hx, hb, hml, hown, hts⟩ (c_X3_isCupboard l G cy ad cn ck n k kv1 o hn hk _ kf3 kf4 i h_i) (cwV 1 hts gX3_proof_X3_isCupboard rfl rfl rfl (by decide +kernel) ⟨Nat.le_of_ble_eq_true rfl, Nat.le_of_ble_eq_true rfl⟩) (mP_V (r := (RX3, TX3, 11)) hN hE (S_4f kf2 kf3 kf4 kf5) rfl) rfl rfl hl.1 rfl (lv_room (Nat.le_of_ble_eq_true rfl)) dX3_proof_7 ⟨Nat.le_of_ble_eq_true rfl, Nat.le_of_ble_eq_true rfl⟩) hE.2.2.2 (fun q _ h => mE_A hE q h) (mE_A hE) (fun r uq tq H locs ht hvm hw hB hz1 hk1 hS => ?_)
  obtain ⟨rfl, rfl⟩ := hw
  have hE : mE G (mA ad (Sy cy ad cn ck v o) s.heap.size) s.heap ad (Sy cy ad cn ck kv1 o) H locs := mE_call hE hB ht hS
  refine lv_if_eq (tgt := 29) hx hb dX3_proof_10 (by decide) (fun c6 => ?_) (fun c6 => ?_)
  · skip
    have c6 := (mz_eq (by omega)).mp c6
    exfalso; omega
  · skip
    have c6 : ¬ 1 = 0 := fun h9 => c6 ((mz_eq (by omega)).mpr h9)
    refine lv_iload_n hx hb dX3_proof_13 rfl (lv_at hl 2 rfl) ?_
    refine va_calli (va_runS (As := [.int x]) (rest := []) ⟨hx, hb, hml, hown, hts⟩ (x_X3_isDrawer l G cy ad (Sy cy ad cn ck kv1 o) _ x hbad) (va_cwS 1 hts gX3_proof_X3_isDrawer rfl rfl rfl (by decide +kernel) ⟨Nat.le_of_ble_eq_true rfl, Nat.le_of_ble_eq_true rfl⟩) (mP_S hN hE) rfl rfl hl.1 rfl (lv_room (Nat.le_of_ble_eq_true rfl)) dX3_proof_14 ⟨Nat.le_of_ble_eq_true rfl, Nat.le_of_ble_eq_true rfl⟩) hE.2.2.2 (fun q _ h => mE_A hE q h) (mE_A hE) (fun r uq tq H locs ht hvm hw hB hz1 hk1 hS => ?_)
    obtain ⟨rfl, rfl⟩ := hw
    have hE : mE G (mA ad (Sy cy ad cn ck v o) s.heap.size) s.heap ad (Sy cy ad cn ck kv1 o) H locs := mE_call hE hB ht hS
    refine lv_if_eq (tgt := 29) hx hb dX3_proof_17 (by decide) (fun c7 => ?_) (fun c7 => ?_)
    · skip
      have c7 := (mz_eq (by omega)).mp c7
      refine lv_aload_n hx hb dX3_proof_29 rfl (lv_at hl 0 rfl) ?_
      refine lv_iconst (v := nI 1) hx hb dX3_proof_30 (by decide) ?_
      refine va_calli (va_runV (As := [.int (nI 1)]) (rest := []) ⟨hx, hb, hml, hown, hts⟩ (c_X3_fail l G cy ad cn ck n k kv1 o hn hk _ kf3 kf4 (nI 1)) (cwV 1 hts gX3_proof_X3_fail rfl rfl rfl (by decide +kernel) ⟨Nat.le_of_ble_eq_true rfl, Nat.le_of_ble_eq_true rfl⟩) (mP_V (r := (RX3, TX3, 11)) hN hE (S_4f kf2 kf3 kf4 kf5) rfl) rfl rfl hl.1 rfl (lv_room (Nat.le_of_ble_eq_true rfl)) dX3_proof_31 ⟨Nat.le_of_ble_eq_true rfl, Nat.le_of_ble_eq_true rfl⟩) hE.2.2.2 (fun q _ h => mE_A hE q h) (mE_A hE) (fun r uq tq H locs ht hvm hw hB hz1 hk1 hS => ?_)
      obtain ⟨rfl, kv8, rfl, kq9⟩ := hw
      have hE : mE G (mA ad (Sy cy ad cn ck v o) s.heap.size) s.heap ad (Sy cy ad cn ck kv8 o) H locs := mE_call hE hB ht hS
      have kf10 : kv8 4 0 = nI 1 := kq9.2.1
      have kf11 : kv8 4 1 = nI n := (kq9.2.2.1).trans kf3
      have kf12 : kv8 4 2 = nI k := (kq9.2.2.2).trans kf4
      exact mx_iret hx hb hr hE hlocks ⟨rfl, ⟨kv8, rfl, fun w h4 h10 h11 => ((kq9.1 w h4 h10 h11).trans (show kv1 w = v w by rw [hkv1, va_up_n _ _ h4])), kf10, (kf11.trans hm1.symm), (kf12.trans hm2.symm)⟩⟩ dX3_proof_34
    · skip
      have c7 : ¬ 0 = 0 := fun h9 => c7 ((mz_eq (by omega)).mpr h9)
      exfalso; omega

set_option maxHeartbeats 4000000 in
set_option maxRecDepth 100000 in
/-- proof -/
theorem x_X3_proof3 (l : Launch) (G : va_G) (cy : Nat → ClassId) (ad : Nat → Nat) (cn ck n k : Nat) (v : Nat → Nat → Int32) (o : Nat → Int64) (hn : n ≤ 6) (hk : k ≤ 20) (sz : Nat) (hm1 : v 4 1 = nI n) (hm2 : v 4 2 = nI k) (i d : Nat) (h_i : i < n) (hd : d < 16) (x : Int32) (hbad : x < 0 ∨ nI 4 ≤ x) : mMi l yX3_proof wsX3_proof ({ frames := 9, cells := 0, slots := 0, locals := 180 }) G cy ad (Sy cy ad cn ck v o) sz [.ref (ad 4), .int (nI i), .int (nI d), .int x] 0 0 (fun (r : Int32) u => r = nI 0 ∧ ∃ v' : Nat → Nat → Int32, u = (ad, Sy cy ad cn ck v' o) ∧ mQT v v' (nI 1)) := by
  refine Met.ofW (cc := cX3_proof) (maxL := 4) (ret := (some .int)) (by decide) rfl ?_
  intro p e s m args below meth c s₁ B hml hv
  obtain ⟨rfl, hv⟩ := hv
  have hsz := hv.1
  subst hsz
  have hN := hv.2.2
  have hE := mP_E hv
  have hx := B.exec
  have hb := B.bytes
  have hr := B.returns
  have hts := atoms_spec (ws := wsX3_proof) B.pre
  have hown : s.vm.findClass RX3 = some m.cls := findClass_of_methodNamed B.named
  have hlocks := B.notSynchronized
  have hiX3 : ∀ w ∈ wsX30, w ∈ wsX3_proof := by decide +kernel
  have hl := lv_entry ([.ref (ad 4), .int (nI i), .int (nI d), .int x]) (n := 4) (Nat.le_of_ble_eq_true rfl)
  rw [lg_entry_eq]
  generalize (lg_sl ([.ref (ad 4), .int (nI i), .int (nI d), .int x]) ++ List.replicate (4 - (lg_sl ([.ref (ad 4), .int (nI i), .int (nI d), .int x])).length) Slot.unset).toArray = ls at hl ⊢
  have hl : lv_has ls 4 [(0, .ref (ad 4)), (1, .int (nI i)), (2, .int (nI d)), (3, .int x)] := hl
  refine lv_aload_n hx hb dX3_proof_0 rfl (lv_at hl 0 rfl) ?_
  refine lv_iconst (v := nI 0) hx hb dX3_proof_1 (by decide) ?_
  refine mx_put (ci := 3) (v := .int (nI 0)) (ty := .int) (C := RX3) (T := TX3) (N := 11) hx hb hts hiX3 tyX3 tyX3_ok nmX3 hown hN hE (S_4f rfl hm1 hm2 rfl) rfl 0 (by decide) (hts (.fieldLink RX3 31 "SealedCupboardsModel" "thrown" "I") (by decide +kernel)) (fun _ h9 => h9) rfl (by decide +kernel) rfl rfl (Nat.le_of_ble_eq_true rfl) dX3_proof_2 (fun H locs hE => ?_)
  obtain ⟨kv1, hkv1⟩ : ∃ y99, y99 = va_up v 4 (upd (v 4) 0 (nI 0)) := ⟨_, rfl⟩
  have hE : mE G (mA ad (Sy cy ad cn ck v o) s.heap.size) s.heap ad (Sy cy ad cn ck kv1 o) H locs := by rw [hkv1]; exact (S_4u (upd_s _ _ _) ((upd_n _ _ (by decide)).trans hm1) ((upd_n _ _ (by decide)).trans hm2) ((upd_n _ _ (by decide)).trans rfl)) ▸ hE
  have kf2 : kv1 4 0 = nI 0 := by rw [hkv1, va_up_s, upd_s]
  have kf3 : kv1 4 1 = nI n := by rw [hkv1, va_up_s, upd_n _ _ (by decide)]; exact hm1
  have kf4 : kv1 4 2 = nI k := by rw [hkv1, va_up_s, upd_n _ _ (by decide)]; exact hm2
  have kf5 : kv1 4 10 = v 4 10 := by rw [hkv1, va_up_s, upd_n _ _ (by decide)]
  refine lv_aload_n hx hb dX3_proof_5 rfl (lv_at hl 0 rfl) ?_
  refine lv_iload_n hx hb dX3_proof_6 rfl (lv_at hl 1 rfl) ?_
  refine va_calli (va_runV (As := [.int (nI i)]) (rest := []) ⟨hx, hb, hml, hown, hts⟩ (c_X3_isCupboard l G cy ad cn ck n k kv1 o hn hk _ kf3 kf4 i h_i) (cwV 1 hts gX3_proof_X3_isCupboard rfl rfl rfl (by decide +kernel) ⟨Nat.le_of_ble_eq_true rfl, Nat.le_of_ble_eq_true rfl⟩) (mP_V (r := (RX3, TX3, 11)) hN hE (S_4f kf2 kf3 kf4 kf5) rfl) rfl rfl hl.1 rfl (lv_room (Nat.le_of_ble_eq_true rfl)) dX3_proof_7 ⟨Nat.le_of_ble_eq_true rfl, Nat.le_of_ble_eq_true rfl⟩) hE.2.2.2 (fun q _ h => mE_A hE q h) (mE_A hE) (fun r uq tq H locs ht hvm hw hB hz1 hk1 hS => ?_)
  obtain ⟨rfl, rfl⟩ := hw
  have hE : mE G (mA ad (Sy cy ad cn ck v o) s.heap.size) s.heap ad (Sy cy ad cn ck kv1 o) H locs := mE_call hE hB ht hS
  refine lv_if_eq (tgt := 29) hx hb dX3_proof_10 (by decide) (fun c6 => ?_) (fun c6 => ?_)
  · skip
    have c6 := (mz_eq (by omega)).mp c6
    exfalso; omega
  · skip
    have c6 : ¬ 1 = 0 := fun h9 => c6 ((mz_eq (by omega)).mpr h9)
    refine lv_iload_n hx hb dX3_proof_13 rfl (lv_at hl 2 rfl) ?_
    refine va_calli (va_runS (As := [.int (nI d)]) (rest := []) ⟨hx, hb, hml, hown, hts⟩ (c_X3_isDrawer l G cy ad (Sy cy ad cn ck kv1 o) _ d (by omega)) (va_cwS 1 hts gX3_proof_X3_isDrawer rfl rfl rfl (by decide +kernel) ⟨Nat.le_of_ble_eq_true rfl, Nat.le_of_ble_eq_true rfl⟩) (mP_S hN hE) rfl rfl hl.1 rfl (lv_room (Nat.le_of_ble_eq_true rfl)) dX3_proof_14 ⟨Nat.le_of_ble_eq_true rfl, Nat.le_of_ble_eq_true rfl⟩) hE.2.2.2 (fun q _ h => mE_A hE q h) (mE_A hE) (fun r uq tq H locs ht hvm hw hB hz1 hk1 hS => ?_)
    obtain ⟨rfl, rfl⟩ := hw
    have hE : mE G (mA ad (Sy cy ad cn ck v o) s.heap.size) s.heap ad (Sy cy ad cn ck kv1 o) H locs := mE_call hE hB ht hS
    refine lv_if_eq (tgt := 29) hx hb dX3_proof_17 (by decide) (fun c7 => ?_) (fun c7 => ?_)
    · skip
      have c7 := (mz_eq (by omega)).mp c7
      exfalso; omega
    · skip
      have c7 : ¬ 1 = 0 := fun h9 => c7 ((mz_eq (by omega)).mpr h9)
      refine lv_iload_n hx hb dX3_proof_20 rfl (lv_at hl 3 rfl) ?_
      refine lv_iconst (v := nI 0) hx hb dX3_proof_21 (by decide) ?_
      refine lv_iconst (v := nI 3) hx hb dX3_proof_22 (by decide) ?_
      refine va_calli (va_runS (As := [.int x, .int (nI 0), .int (nI 3)]) (rest := []) ⟨hx, hb, hml, hown, hts⟩ (x_X3_isIn l G cy ad (Sy cy ad cn ck kv1 o) _ x (nI 0) (nI 3) (mi_bad hbad rfl (by decide))) (va_cwS 3 hts gX3_proof_X3_isIn rfl rfl rfl (by decide +kernel) ⟨Nat.le_of_ble_eq_true rfl, Nat.le_of_ble_eq_true rfl⟩) (mP_S hN hE) rfl rfl hl.1 rfl (lv_room (Nat.le_of_ble_eq_true rfl)) dX3_proof_23 ⟨Nat.le_of_ble_eq_true rfl, Nat.le_of_ble_eq_true rfl⟩) hE.2.2.2 (fun q _ h => mE_A hE q h) (mE_A hE) (fun r uq tq H locs ht hvm hw hB hz1 hk1 hS => ?_)
      obtain ⟨rfl, rfl⟩ := hw
      have hE : mE G (mA ad (Sy cy ad cn ck v o) s.heap.size) s.heap ad (Sy cy ad cn ck kv1 o) H locs := mE_call hE hB ht hS
      refine lv_if_ne (tgt := 35) hx hb dX3_proof_26 (by decide) (fun c8 => ?_) (fun c8 => ?_)
      · skip
        have c8 : ¬ 0 = 0 := fun h9 => c8 ((mz_eq (by omega)).mpr h9)
        exfalso; omega
      · skip
        have c8 := (mz_eq (by omega)).mp c8
        refine lv_aload_n hx hb dX3_proof_29 rfl (lv_at hl 0 rfl) ?_
        refine lv_iconst (v := nI 1) hx hb dX3_proof_30 (by decide) ?_
        refine va_calli (va_runV (As := [.int (nI 1)]) (rest := []) ⟨hx, hb, hml, hown, hts⟩ (c_X3_fail l G cy ad cn ck n k kv1 o hn hk _ kf3 kf4 (nI 1)) (cwV 1 hts gX3_proof_X3_fail rfl rfl rfl (by decide +kernel) ⟨Nat.le_of_ble_eq_true rfl, Nat.le_of_ble_eq_true rfl⟩) (mP_V (r := (RX3, TX3, 11)) hN hE (S_4f kf2 kf3 kf4 kf5) rfl) rfl rfl hl.1 rfl (lv_room (Nat.le_of_ble_eq_true rfl)) dX3_proof_31 ⟨Nat.le_of_ble_eq_true rfl, Nat.le_of_ble_eq_true rfl⟩) hE.2.2.2 (fun q _ h => mE_A hE q h) (mE_A hE) (fun r uq tq H locs ht hvm hw hB hz1 hk1 hS => ?_)
        obtain ⟨rfl, kv9, rfl, kq10⟩ := hw
        have hE : mE G (mA ad (Sy cy ad cn ck v o) s.heap.size) s.heap ad (Sy cy ad cn ck kv9 o) H locs := mE_call hE hB ht hS
        have kf11 : kv9 4 0 = nI 1 := kq10.2.1
        have kf12 : kv9 4 1 = nI n := (kq10.2.2.1).trans kf3
        have kf13 : kv9 4 2 = nI k := (kq10.2.2.2).trans kf4
        exact mx_iret hx hb hr hE hlocks ⟨rfl, ⟨kv9, rfl, fun w h4 h10 h11 => ((kq10.1 w h4 h10 h11).trans (show kv1 w = v w by rw [hkv1, va_up_n _ _ h4])), kf11, (kf12.trans hm1.symm), (kf13.trans hm2.symm)⟩⟩ dX3_proof_34

set_option maxHeartbeats 4000000 in
set_option maxRecDepth 100000 in
/-- comes -/
theorem c_X3_comes (l : Launch) (G : va_G) (cy : Nat → ClassId) (ad : Nat → Nat) (cn ck n k : Nat) (v : Nat → Nat → Int32) (o : Nat → Int64) (hn : n ≤ 6) (hk : k ≤ 20) (sz : Nat) (hm1 : v 4 1 = nI n) (hm2 : v 4 2 = nI k) (d t9 a1 a2 a3 a4 : Nat) (hd : d < 16) (ht9 : t9 < 10000) (h1 : a1 < 997) (h2 : a2 < 997) (h3 : a3 < 997) (h4 : a4 < 997) : mMi l yX3_comes wsX3_comes ({ frames := 10, cells := 0, slots := 0, locals := 220 }) G cy ad (Sy cy ad cn ck v o) sz [.ref (ad 4), .int (nI d), .int (nI t9), .int (nI a1), .int (nI a2), .int (nI a3), .int (nI a4)] 0 0 (fun (r : Int32) u => r = mComes d (nI t9) (nI a1) (nI a2) (nI a3) (nI a4) ∧ ∃ v' : Nat → Nat → Int32, u = (ad, Sy cy ad cn ck v' o) ∧ mQT v v' (nI 0)) := by
  refine Met.ofW (cc := cX3_comes) (maxL := 7) (ret := (some .int)) (by decide) rfl ?_
  intro p e s m args below meth c s₁ B hml hv
  obtain ⟨rfl, hv⟩ := hv
  have hsz := hv.1
  subst hsz
  have hN := hv.2.2
  have hE := mP_E hv
  have hx := B.exec
  have hb := B.bytes
  have hr := B.returns
  have hts := atoms_spec (ws := wsX3_comes) B.pre
  have hown : s.vm.findClass RX3 = some m.cls := findClass_of_methodNamed B.named
  have hlocks := B.notSynchronized
  have hiX3 : ∀ w ∈ wsX30, w ∈ wsX3_comes := by decide +kernel
  have hl := lv_entry ([.ref (ad 4), .int (nI d), .int (nI t9), .int (nI a1), .int (nI a2), .int (nI a3), .int (nI a4)]) (n := 7) (Nat.le_of_ble_eq_true rfl)
  rw [lg_entry_eq]
  generalize (lg_sl ([.ref (ad 4), .int (nI d), .int (nI t9), .int (nI a1), .int (nI a2), .int (nI a3), .int (nI a4)]) ++ List.replicate (7 - (lg_sl ([.ref (ad 4), .int (nI d), .int (nI t9), .int (nI a1), .int (nI a2), .int (nI a3), .int (nI a4)])).length) Slot.unset).toArray = ls at hl ⊢
  have hl : lv_has ls 7 [(0, .ref (ad 4)), (1, .int (nI d)), (2, .int (nI t9)), (3, .int (nI a1)), (4, .int (nI a2)), (5, .int (nI a3)), (6, .int (nI a4))] := hl
  refine lv_aload_n hx hb dX3_comes_0 rfl (lv_at hl 0 rfl) ?_
  refine lv_iconst (v := nI 0) hx hb dX3_comes_1 (by decide) ?_
  refine mx_put (ci := 3) (v := .int (nI 0)) (ty := .int) (C := RX3) (T := TX3) (N := 11) hx hb hts hiX3 tyX3 tyX3_ok nmX3 hown hN hE (S_4f rfl hm1 hm2 rfl) rfl 0 (by decide) (hts (.fieldLink RX3 31 "SealedCupboardsModel" "thrown" "I") (by decide +kernel)) (fun _ h9 => h9) rfl (by decide +kernel) rfl rfl (Nat.le_of_ble_eq_true rfl) dX3_comes_2 (fun H locs hE => ?_)
  obtain ⟨kv1, hkv1⟩ : ∃ y99, y99 = va_up v 4 (upd (v 4) 0 (nI 0)) := ⟨_, rfl⟩
  have hE : mE G (mA ad (Sy cy ad cn ck v o) s.heap.size) s.heap ad (Sy cy ad cn ck kv1 o) H locs := by rw [hkv1]; exact (S_4u (upd_s _ _ _) ((upd_n _ _ (by decide)).trans hm1) ((upd_n _ _ (by decide)).trans hm2) ((upd_n _ _ (by decide)).trans rfl)) ▸ hE
  have kf2 : kv1 4 0 = nI 0 := by rw [hkv1, va_up_s, upd_s]
  have kf3 : kv1 4 1 = nI n := by rw [hkv1, va_up_s, upd_n _ _ (by decide)]; exact hm1
  have kf4 : kv1 4 2 = nI k := by rw [hkv1, va_up_s, upd_n _ _ (by decide)]; exact hm2
  have kf5 : kv1 4 10 = v 4 10 := by rw [hkv1, va_up_s, upd_n _ _ (by decide)]
  refine lv_iload_n hx hb dX3_comes_5 rfl (lv_at hl 1 rfl) ?_
  refine va_calli (va_runS (As := [.int (nI d)]) (rest := []) ⟨hx, hb, hml, hown, hts⟩ (c_X3_isDrawer l G cy ad (Sy cy ad cn ck kv1 o) _ d (by omega)) (va_cwS 1 hts gX3_comes_X3_isDrawer rfl rfl rfl (by decide +kernel) ⟨Nat.le_of_ble_eq_true rfl, Nat.le_of_ble_eq_true rfl⟩) (mP_S hN hE) rfl rfl hl.1 rfl (lv_room (Nat.le_of_ble_eq_true rfl)) dX3_comes_6 ⟨Nat.le_of_ble_eq_true rfl, Nat.le_of_ble_eq_true rfl⟩) hE.2.2.2 (fun q _ h => mE_A hE q h) (mE_A hE) (fun r uq tq H locs ht hvm hw hB hz1 hk1 hS => ?_)
  obtain ⟨rfl, rfl⟩ := hw
  have hE : mE G (mA ad (Sy cy ad cn ck v o) s.heap.size) s.heap ad (Sy cy ad cn ck kv1 o) H locs := mE_call hE hB ht hS
  refine lv_if_ne (tgt := 18) hx hb dX3_comes_9 (by decide) (fun c6 => ?_) (fun c6 => ?_)
  · skip
    have c6 : ¬ 1 = 0 := fun h9 => c6 ((mz_eq (by omega)).mpr h9)
    refine lv_iload_n hx hb dX3_comes_18 rfl (lv_at hl 2 rfl) ?_
    refine lv_iconst (v := nI 0) hx hb dX3_comes_19 (by decide) ?_
    refine lv_sipush (v := nI 9999) hx hb dX3_comes_20 (by decide) ?_
    refine va_calli (va_runS (As := [.int (nI t9), .int (nI 0), .int (nI 9999)]) (rest := []) ⟨hx, hb, hml, hown, hts⟩ (c_X3_isIn l G cy ad (Sy cy ad cn ck kv1 o) _ t9 0 9999 (by omega) (by omega) (by omega)) (va_cwS 3 hts gX3_comes_X3_isIn rfl rfl rfl (by decide +kernel) ⟨Nat.le_of_ble_eq_true rfl, Nat.le_of_ble_eq_true rfl⟩) (mP_S hN hE) rfl rfl hl.1 rfl (lv_room (Nat.le_of_ble_eq_true rfl)) dX3_comes_23 ⟨Nat.le_of_ble_eq_true rfl, Nat.le_of_ble_eq_true rfl⟩) hE.2.2.2 (fun q _ h => mE_A hE q h) (mE_A hE) (fun r uq tq H locs ht hvm hw hB hz1 hk1 hS => ?_)
    obtain ⟨rfl, rfl⟩ := hw
    have hE : mE G (mA ad (Sy cy ad cn ck v o) s.heap.size) s.heap ad (Sy cy ad cn ck kv1 o) H locs := mE_call hE hB ht hS
    refine lv_if_eq (tgt := 76) hx hb dX3_comes_26 (by decide) (fun c7 => ?_) (fun c7 => ?_)
    · skip
      have c7 := (mz_eq (by omega)).mp c7
      exfalso; omega
    · skip
      have c7 : ¬ 1 = 0 := fun h9 => c7 ((mz_eq (by omega)).mpr h9)
      refine lv_iload_n hx hb dX3_comes_29 rfl (lv_at hl 3 rfl) ?_
      refine lv_iconst (v := nI 0) hx hb dX3_comes_30 (by decide) ?_
      refine lv_sipush (v := nI 996) hx hb dX3_comes_31 (by decide) ?_
      refine va_calli (va_runS (As := [.int (nI a1), .int (nI 0), .int (nI 996)]) (rest := []) ⟨hx, hb, hml, hown, hts⟩ (c_X3_isIn l G cy ad (Sy cy ad cn ck kv1 o) _ a1 0 996 (by omega) (by omega) (by omega)) (va_cwS 3 hts gX3_comes_X3_isIn rfl rfl rfl (by decide +kernel) ⟨Nat.le_of_ble_eq_true rfl, Nat.le_of_ble_eq_true rfl⟩) (mP_S hN hE) rfl rfl hl.1 rfl (lv_room (Nat.le_of_ble_eq_true rfl)) dX3_comes_34 ⟨Nat.le_of_ble_eq_true rfl, Nat.le_of_ble_eq_true rfl⟩) hE.2.2.2 (fun q _ h => mE_A hE q h) (mE_A hE) (fun r uq tq H locs ht hvm hw hB hz1 hk1 hS => ?_)
      obtain ⟨rfl, rfl⟩ := hw
      have hE : mE G (mA ad (Sy cy ad cn ck v o) s.heap.size) s.heap ad (Sy cy ad cn ck kv1 o) H locs := mE_call hE hB ht hS
      refine lv_if_eq (tgt := 76) hx hb dX3_comes_37 (by decide) (fun c8 => ?_) (fun c8 => ?_)
      · skip
        have c8 := (mz_eq (by omega)).mp c8
        exfalso; omega
      · skip
        have c8 : ¬ 1 = 0 := fun h9 => c8 ((mz_eq (by omega)).mpr h9)
        refine lv_iload hx hb dX3_comes_40 (lv_at hl 4 rfl) ?_
        refine lv_iconst (v := nI 0) hx hb dX3_comes_42 (by decide) ?_
        refine lv_sipush (v := nI 996) hx hb dX3_comes_43 (by decide) ?_
        refine va_calli (va_runS (As := [.int (nI a2), .int (nI 0), .int (nI 996)]) (rest := []) ⟨hx, hb, hml, hown, hts⟩ (c_X3_isIn l G cy ad (Sy cy ad cn ck kv1 o) _ a2 0 996 (by omega) (by omega) (by omega)) (va_cwS 3 hts gX3_comes_X3_isIn rfl rfl rfl (by decide +kernel) ⟨Nat.le_of_ble_eq_true rfl, Nat.le_of_ble_eq_true rfl⟩) (mP_S hN hE) rfl rfl hl.1 rfl (lv_room (Nat.le_of_ble_eq_true rfl)) dX3_comes_46 ⟨Nat.le_of_ble_eq_true rfl, Nat.le_of_ble_eq_true rfl⟩) hE.2.2.2 (fun q _ h => mE_A hE q h) (mE_A hE) (fun r uq tq H locs ht hvm hw hB hz1 hk1 hS => ?_)
        obtain ⟨rfl, rfl⟩ := hw
        have hE : mE G (mA ad (Sy cy ad cn ck v o) s.heap.size) s.heap ad (Sy cy ad cn ck kv1 o) H locs := mE_call hE hB ht hS
        refine lv_if_eq (tgt := 76) hx hb dX3_comes_49 (by decide) (fun c9 => ?_) (fun c9 => ?_)
        · skip
          have c9 := (mz_eq (by omega)).mp c9
          exfalso; omega
        · skip
          have c9 : ¬ 1 = 0 := fun h9 => c9 ((mz_eq (by omega)).mpr h9)
          refine lv_iload hx hb dX3_comes_52 (lv_at hl 5 rfl) ?_
          refine lv_iconst (v := nI 0) hx hb dX3_comes_54 (by decide) ?_
          refine lv_sipush (v := nI 996) hx hb dX3_comes_55 (by decide) ?_
          refine va_calli (va_runS (As := [.int (nI a3), .int (nI 0), .int (nI 996)]) (rest := []) ⟨hx, hb, hml, hown, hts⟩ (c_X3_isIn l G cy ad (Sy cy ad cn ck kv1 o) _ a3 0 996 (by omega) (by omega) (by omega)) (va_cwS 3 hts gX3_comes_X3_isIn rfl rfl rfl (by decide +kernel) ⟨Nat.le_of_ble_eq_true rfl, Nat.le_of_ble_eq_true rfl⟩) (mP_S hN hE) rfl rfl hl.1 rfl (lv_room (Nat.le_of_ble_eq_true rfl)) dX3_comes_58 ⟨Nat.le_of_ble_eq_true rfl, Nat.le_of_ble_eq_true rfl⟩) hE.2.2.2 (fun q _ h => mE_A hE q h) (mE_A hE) (fun r uq tq H locs ht hvm hw hB hz1 hk1 hS => ?_)
          obtain ⟨rfl, rfl⟩ := hw
          have hE : mE G (mA ad (Sy cy ad cn ck v o) s.heap.size) s.heap ad (Sy cy ad cn ck kv1 o) H locs := mE_call hE hB ht hS
          refine lv_if_eq (tgt := 76) hx hb dX3_comes_61 (by decide) (fun c10 => ?_) (fun c10 => ?_)
          · skip
            have c10 := (mz_eq (by omega)).mp c10
            exfalso; omega
          · skip
            have c10 : ¬ 1 = 0 := fun h9 => c10 ((mz_eq (by omega)).mpr h9)
            refine lv_iload hx hb dX3_comes_64 (lv_at hl 6 rfl) ?_
            refine lv_iconst (v := nI 0) hx hb dX3_comes_66 (by decide) ?_
            refine lv_sipush (v := nI 996) hx hb dX3_comes_67 (by decide) ?_
            refine va_calli (va_runS (As := [.int (nI a4), .int (nI 0), .int (nI 996)]) (rest := []) ⟨hx, hb, hml, hown, hts⟩ (c_X3_isIn l G cy ad (Sy cy ad cn ck kv1 o) _ a4 0 996 (by omega) (by omega) (by omega)) (va_cwS 3 hts gX3_comes_X3_isIn rfl rfl rfl (by decide +kernel) ⟨Nat.le_of_ble_eq_true rfl, Nat.le_of_ble_eq_true rfl⟩) (mP_S hN hE) rfl rfl hl.1 rfl (lv_room (Nat.le_of_ble_eq_true rfl)) dX3_comes_70 ⟨Nat.le_of_ble_eq_true rfl, Nat.le_of_ble_eq_true rfl⟩) hE.2.2.2 (fun q _ h => mE_A hE q h) (mE_A hE) (fun r uq tq H locs ht hvm hw hB hz1 hk1 hS => ?_)
            obtain ⟨rfl, rfl⟩ := hw
            have hE : mE G (mA ad (Sy cy ad cn ck v o) s.heap.size) s.heap ad (Sy cy ad cn ck kv1 o) H locs := mE_call hE hB ht hS
            refine lv_if_ne (tgt := 82) hx hb dX3_comes_73 (by decide) (fun c11 => ?_) (fun c11 => ?_)
            · skip
              have c11 : ¬ 1 = 0 := fun h9 => c11 ((mz_eq (by omega)).mpr h9)
              refine lv_iload_n hx hb dX3_comes_82 rfl (lv_at hl 1 rfl) ?_
              refine lv_iload_n hx hb dX3_comes_83 rfl (lv_at hl 2 rfl) ?_
              refine lv_iload_n hx hb dX3_comes_84 rfl (lv_at hl 3 rfl) ?_
              refine lv_iload hx hb dX3_comes_85 (lv_at hl 4 rfl) ?_
              refine lv_iload hx hb dX3_comes_87 (lv_at hl 5 rfl) ?_
              refine lv_iload hx hb dX3_comes_89 (lv_at hl 6 rfl) ?_
              refine va_calli (va_runS (As := [.int (nI d), .int (nI t9), .int (nI a1), .int (nI a2), .int (nI a3), .int (nI a4)]) (rest := []) ⟨hx, hb, hml, hown, hts⟩ (c_X3_way l G cy ad (Sy cy ad cn ck kv1 o) _ d (nI t9) (nI a1) (nI a2) (nI a3) (nI a4) (by omega)) (va_cwS 6 hts gX3_comes_X3_way rfl rfl rfl (by decide +kernel) ⟨Nat.le_of_ble_eq_true rfl, Nat.le_of_ble_eq_true rfl⟩) (mP_S hN hE) rfl rfl hl.1 rfl (lv_room (Nat.le_of_ble_eq_true rfl)) dX3_comes_91 ⟨Nat.le_of_ble_eq_true rfl, Nat.le_of_ble_eq_true rfl⟩) hE.2.2.2 (fun q _ h => mE_A hE q h) (mE_A hE) (fun r uq tq H locs ht hvm hw hB hz1 hk1 hS => ?_)
              obtain ⟨rfl, rfl⟩ := hw
              have hE : mE G (mA ad (Sy cy ad cn ck v o) s.heap.size) s.heap ad (Sy cy ad cn ck kv1 o) H locs := mE_call hE hB ht hS
              exact mx_iret hx hb hr hE hlocks ⟨rfl, ⟨kv1, rfl, fun w h4 h10 h11 => (show kv1 w = v w by rw [hkv1, va_up_n _ _ h4]), kf2, (kf3.trans hm1.symm), (kf4.trans hm2.symm)⟩⟩ dX3_comes_94
            · skip
              have c11 := (mz_eq (by omega)).mp c11
              exfalso; omega
  · skip
    have c6 := (mz_eq (by omega)).mp c6
    exfalso; omega

set_option maxHeartbeats 4000000 in
set_option maxRecDepth 100000 in
/-- comes -/
theorem x_X3_comes1 (l : Launch) (G : va_G) (cy : Nat → ClassId) (ad : Nat → Nat) (cn ck n k : Nat) (v : Nat → Nat → Int32) (o : Nat → Int64) (hn : n ≤ 6) (hk : k ≤ 20) (sz : Nat) (hm1 : v 4 1 = nI n) (hm2 : v 4 2 = nI k) (x : Int32) (hbad : x < 0 ∨ nI 16 ≤ x) (z1 : Int32) (z2 : Int32) (z3 : Int32) (z4 : Int32) (z5 : Int32) : mMi l yX3_comes wsX3_comes ({ frames := 10, cells := 0, slots := 0, locals := 220 }) G cy ad (Sy cy ad cn ck v o) sz [.ref (ad 4), .int x, .int z1, .int z2, .int z3, .int z4, .int z5] 0 0 (fun (r : Int32) u => r = nI 0 ∧ ∃ v' : Nat → Nat → Int32, u = (ad, Sy cy ad cn ck v' o) ∧ mQT v v' (nI 1)) := by
  refine Met.ofW (cc := cX3_comes) (maxL := 7) (ret := (some .int)) (by decide) rfl ?_
  intro p e s m args below meth c s₁ B hml hv
  obtain ⟨rfl, hv⟩ := hv
  have hsz := hv.1
  subst hsz
  have hN := hv.2.2
  have hE := mP_E hv
  have hx := B.exec
  have hb := B.bytes
  have hr := B.returns
  have hts := atoms_spec (ws := wsX3_comes) B.pre
  have hown : s.vm.findClass RX3 = some m.cls := findClass_of_methodNamed B.named
  have hlocks := B.notSynchronized
  have hiX3 : ∀ w ∈ wsX30, w ∈ wsX3_comes := by decide +kernel
  have hl := lv_entry ([.ref (ad 4), .int x, .int z1, .int z2, .int z3, .int z4, .int z5]) (n := 7) (Nat.le_of_ble_eq_true rfl)
  rw [lg_entry_eq]
  generalize (lg_sl ([.ref (ad 4), .int x, .int z1, .int z2, .int z3, .int z4, .int z5]) ++ List.replicate (7 - (lg_sl ([.ref (ad 4), .int x, .int z1, .int z2, .int z3, .int z4, .int z5])).length) Slot.unset).toArray = ls at hl ⊢
  have hl : lv_has ls 7 [(0, .ref (ad 4)), (1, .int x), (2, .int z1), (3, .int z2), (4, .int z3), (5, .int z4), (6, .int z5)] := hl
  refine lv_aload_n hx hb dX3_comes_0 rfl (lv_at hl 0 rfl) ?_
  refine lv_iconst (v := nI 0) hx hb dX3_comes_1 (by decide) ?_
  refine mx_put (ci := 3) (v := .int (nI 0)) (ty := .int) (C := RX3) (T := TX3) (N := 11) hx hb hts hiX3 tyX3 tyX3_ok nmX3 hown hN hE (S_4f rfl hm1 hm2 rfl) rfl 0 (by decide) (hts (.fieldLink RX3 31 "SealedCupboardsModel" "thrown" "I") (by decide +kernel)) (fun _ h9 => h9) rfl (by decide +kernel) rfl rfl (Nat.le_of_ble_eq_true rfl) dX3_comes_2 (fun H locs hE => ?_)
  obtain ⟨kv1, hkv1⟩ : ∃ y99, y99 = va_up v 4 (upd (v 4) 0 (nI 0)) := ⟨_, rfl⟩
  have hE : mE G (mA ad (Sy cy ad cn ck v o) s.heap.size) s.heap ad (Sy cy ad cn ck kv1 o) H locs := by rw [hkv1]; exact (S_4u (upd_s _ _ _) ((upd_n _ _ (by decide)).trans hm1) ((upd_n _ _ (by decide)).trans hm2) ((upd_n _ _ (by decide)).trans rfl)) ▸ hE
  have kf2 : kv1 4 0 = nI 0 := by rw [hkv1, va_up_s, upd_s]
  have kf3 : kv1 4 1 = nI n := by rw [hkv1, va_up_s, upd_n _ _ (by decide)]; exact hm1
  have kf4 : kv1 4 2 = nI k := by rw [hkv1, va_up_s, upd_n _ _ (by decide)]; exact hm2
  have kf5 : kv1 4 10 = v 4 10 := by rw [hkv1, va_up_s, upd_n _ _ (by decide)]
  refine lv_iload_n hx hb dX3_comes_5 rfl (lv_at hl 1 rfl) ?_
  refine va_calli (va_runS (As := [.int x]) (rest := []) ⟨hx, hb, hml, hown, hts⟩ (x_X3_isDrawer l G cy ad (Sy cy ad cn ck kv1 o) _ x hbad) (va_cwS 1 hts gX3_comes_X3_isDrawer rfl rfl rfl (by decide +kernel) ⟨Nat.le_of_ble_eq_true rfl, Nat.le_of_ble_eq_true rfl⟩) (mP_S hN hE) rfl rfl hl.1 rfl (lv_room (Nat.le_of_ble_eq_true rfl)) dX3_comes_6 ⟨Nat.le_of_ble_eq_true rfl, Nat.le_of_ble_eq_true rfl⟩) hE.2.2.2 (fun q _ h => mE_A hE q h) (mE_A hE) (fun r uq tq H locs ht hvm hw hB hz1 hk1 hS => ?_)
  obtain ⟨rfl, rfl⟩ := hw
  have hE : mE G (mA ad (Sy cy ad cn ck v o) s.heap.size) s.heap ad (Sy cy ad cn ck kv1 o) H locs := mE_call hE hB ht hS
  refine lv_if_ne (tgt := 18) hx hb dX3_comes_9 (by decide) (fun c6 => ?_) (fun c6 => ?_)
  · skip
    have c6 : ¬ 0 = 0 := fun h9 => c6 ((mz_eq (by omega)).mpr h9)
    exfalso; omega
  · skip
    have c6 := (mz_eq (by omega)).mp c6
    refine lv_aload_n hx hb dX3_comes_12 rfl (lv_at hl 0 rfl) ?_
    refine lv_iconst (v := nI 1) hx hb dX3_comes_13 (by decide) ?_
    refine va_calli (va_runV (As := [.int (nI 1)]) (rest := []) ⟨hx, hb, hml, hown, hts⟩ (c_X3_fail l G cy ad cn ck n k kv1 o hn hk _ kf3 kf4 (nI 1)) (cwV 1 hts gX3_comes_X3_fail rfl rfl rfl (by decide +kernel) ⟨Nat.le_of_ble_eq_true rfl, Nat.le_of_ble_eq_true rfl⟩) (mP_V (r := (RX3, TX3, 11)) hN hE (S_4f kf2 kf3 kf4 kf5) rfl) rfl rfl hl.1 rfl (lv_room (Nat.le_of_ble_eq_true rfl)) dX3_comes_14 ⟨Nat.le_of_ble_eq_true rfl, Nat.le_of_ble_eq_true rfl⟩) hE.2.2.2 (fun q _ h => mE_A hE q h) (mE_A hE) (fun r uq tq H locs ht hvm hw hB hz1 hk1 hS => ?_)
    obtain ⟨rfl, kv7, rfl, kq8⟩ := hw
    have hE : mE G (mA ad (Sy cy ad cn ck v o) s.heap.size) s.heap ad (Sy cy ad cn ck kv7 o) H locs := mE_call hE hB ht hS
    have kf9 : kv7 4 0 = nI 1 := kq8.2.1
    have kf10 : kv7 4 1 = nI n := (kq8.2.2.1).trans kf3
    have kf11 : kv7 4 2 = nI k := (kq8.2.2.2).trans kf4
    exact mx_iret hx hb hr hE hlocks ⟨rfl, ⟨kv7, rfl, fun w h4 h10 h11 => ((kq8.1 w h4 h10 h11).trans (show kv1 w = v w by rw [hkv1, va_up_n _ _ h4])), kf9, (kf10.trans hm1.symm), (kf11.trans hm2.symm)⟩⟩ dX3_comes_17

set_option maxHeartbeats 4000000 in
set_option maxRecDepth 100000 in
/-- comes -/
theorem x_X3_comes2 (l : Launch) (G : va_G) (cy : Nat → ClassId) (ad : Nat → Nat) (cn ck n k : Nat) (v : Nat → Nat → Int32) (o : Nat → Int64) (hn : n ≤ 6) (hk : k ≤ 20) (sz : Nat) (hm1 : v 4 1 = nI n) (hm2 : v 4 2 = nI k) (d : Nat) (h_d : d < 16) (x : Int32) (hbad : x < 0 ∨ nI 10000 ≤ x) (z2 : Int32) (z3 : Int32) (z4 : Int32) (z5 : Int32) : mMi l yX3_comes wsX3_comes ({ frames := 10, cells := 0, slots := 0, locals := 220 }) G cy ad (Sy cy ad cn ck v o) sz [.ref (ad 4), .int (nI d), .int x, .int z2, .int z3, .int z4, .int z5] 0 0 (fun (r : Int32) u => r = nI 0 ∧ ∃ v' : Nat → Nat → Int32, u = (ad, Sy cy ad cn ck v' o) ∧ mQT v v' (nI 2)) := by
  refine Met.ofW (cc := cX3_comes) (maxL := 7) (ret := (some .int)) (by decide) rfl ?_
  intro p e s m args below meth c s₁ B hml hv
  obtain ⟨rfl, hv⟩ := hv
  have hsz := hv.1
  subst hsz
  have hN := hv.2.2
  have hE := mP_E hv
  have hx := B.exec
  have hb := B.bytes
  have hr := B.returns
  have hts := atoms_spec (ws := wsX3_comes) B.pre
  have hown : s.vm.findClass RX3 = some m.cls := findClass_of_methodNamed B.named
  have hlocks := B.notSynchronized
  have hiX3 : ∀ w ∈ wsX30, w ∈ wsX3_comes := by decide +kernel
  have hl := lv_entry ([.ref (ad 4), .int (nI d), .int x, .int z2, .int z3, .int z4, .int z5]) (n := 7) (Nat.le_of_ble_eq_true rfl)
  rw [lg_entry_eq]
  generalize (lg_sl ([.ref (ad 4), .int (nI d), .int x, .int z2, .int z3, .int z4, .int z5]) ++ List.replicate (7 - (lg_sl ([.ref (ad 4), .int (nI d), .int x, .int z2, .int z3, .int z4, .int z5])).length) Slot.unset).toArray = ls at hl ⊢
  have hl : lv_has ls 7 [(0, .ref (ad 4)), (1, .int (nI d)), (2, .int x), (3, .int z2), (4, .int z3), (5, .int z4), (6, .int z5)] := hl
  refine lv_aload_n hx hb dX3_comes_0 rfl (lv_at hl 0 rfl) ?_
  refine lv_iconst (v := nI 0) hx hb dX3_comes_1 (by decide) ?_
  refine mx_put (ci := 3) (v := .int (nI 0)) (ty := .int) (C := RX3) (T := TX3) (N := 11) hx hb hts hiX3 tyX3 tyX3_ok nmX3 hown hN hE (S_4f rfl hm1 hm2 rfl) rfl 0 (by decide) (hts (.fieldLink RX3 31 "SealedCupboardsModel" "thrown" "I") (by decide +kernel)) (fun _ h9 => h9) rfl (by decide +kernel) rfl rfl (Nat.le_of_ble_eq_true rfl) dX3_comes_2 (fun H locs hE => ?_)
  obtain ⟨kv1, hkv1⟩ : ∃ y99, y99 = va_up v 4 (upd (v 4) 0 (nI 0)) := ⟨_, rfl⟩
  have hE : mE G (mA ad (Sy cy ad cn ck v o) s.heap.size) s.heap ad (Sy cy ad cn ck kv1 o) H locs := by rw [hkv1]; exact (S_4u (upd_s _ _ _) ((upd_n _ _ (by decide)).trans hm1) ((upd_n _ _ (by decide)).trans hm2) ((upd_n _ _ (by decide)).trans rfl)) ▸ hE
  have kf2 : kv1 4 0 = nI 0 := by rw [hkv1, va_up_s, upd_s]
  have kf3 : kv1 4 1 = nI n := by rw [hkv1, va_up_s, upd_n _ _ (by decide)]; exact hm1
  have kf4 : kv1 4 2 = nI k := by rw [hkv1, va_up_s, upd_n _ _ (by decide)]; exact hm2
  have kf5 : kv1 4 10 = v 4 10 := by rw [hkv1, va_up_s, upd_n _ _ (by decide)]
  refine lv_iload_n hx hb dX3_comes_5 rfl (lv_at hl 1 rfl) ?_
  refine va_calli (va_runS (As := [.int (nI d)]) (rest := []) ⟨hx, hb, hml, hown, hts⟩ (c_X3_isDrawer l G cy ad (Sy cy ad cn ck kv1 o) _ d (by omega)) (va_cwS 1 hts gX3_comes_X3_isDrawer rfl rfl rfl (by decide +kernel) ⟨Nat.le_of_ble_eq_true rfl, Nat.le_of_ble_eq_true rfl⟩) (mP_S hN hE) rfl rfl hl.1 rfl (lv_room (Nat.le_of_ble_eq_true rfl)) dX3_comes_6 ⟨Nat.le_of_ble_eq_true rfl, Nat.le_of_ble_eq_true rfl⟩) hE.2.2.2 (fun q _ h => mE_A hE q h) (mE_A hE) (fun r uq tq H locs ht hvm hw hB hz1 hk1 hS => ?_)
  obtain ⟨rfl, rfl⟩ := hw
  have hE : mE G (mA ad (Sy cy ad cn ck v o) s.heap.size) s.heap ad (Sy cy ad cn ck kv1 o) H locs := mE_call hE hB ht hS
  refine lv_if_ne (tgt := 18) hx hb dX3_comes_9 (by decide) (fun c6 => ?_) (fun c6 => ?_)
  · skip
    have c6 : ¬ 1 = 0 := fun h9 => c6 ((mz_eq (by omega)).mpr h9)
    refine lv_iload_n hx hb dX3_comes_18 rfl (lv_at hl 2 rfl) ?_
    refine lv_iconst (v := nI 0) hx hb dX3_comes_19 (by decide) ?_
    refine lv_sipush (v := nI 9999) hx hb dX3_comes_20 (by decide) ?_
    refine va_calli (va_runS (As := [.int x, .int (nI 0), .int (nI 9999)]) (rest := []) ⟨hx, hb, hml, hown, hts⟩ (x_X3_isIn l G cy ad (Sy cy ad cn ck kv1 o) _ x (nI 0) (nI 9999) (mi_bad hbad rfl (by decide))) (va_cwS 3 hts gX3_comes_X3_isIn rfl rfl rfl (by decide +kernel) ⟨Nat.le_of_ble_eq_true rfl, Nat.le_of_ble_eq_true rfl⟩) (mP_S hN hE) rfl rfl hl.1 rfl (lv_room (Nat.le_of_ble_eq_true rfl)) dX3_comes_23 ⟨Nat.le_of_ble_eq_true rfl, Nat.le_of_ble_eq_true rfl⟩) hE.2.2.2 (fun q _ h => mE_A hE q h) (mE_A hE) (fun r uq tq H locs ht hvm hw hB hz1 hk1 hS => ?_)
    obtain ⟨rfl, rfl⟩ := hw
    have hE : mE G (mA ad (Sy cy ad cn ck v o) s.heap.size) s.heap ad (Sy cy ad cn ck kv1 o) H locs := mE_call hE hB ht hS
    refine lv_if_eq (tgt := 76) hx hb dX3_comes_26 (by decide) (fun c7 => ?_) (fun c7 => ?_)
    · skip
      have c7 := (mz_eq (by omega)).mp c7
      refine lv_aload_n hx hb dX3_comes_76 rfl (lv_at hl 0 rfl) ?_
      refine lv_iconst (v := nI 2) hx hb dX3_comes_77 (by decide) ?_
      refine va_calli (va_runV (As := [.int (nI 2)]) (rest := []) ⟨hx, hb, hml, hown, hts⟩ (c_X3_fail l G cy ad cn ck n k kv1 o hn hk _ kf3 kf4 (nI 2)) (cwV 1 hts gX3_comes_X3_fail rfl rfl rfl (by decide +kernel) ⟨Nat.le_of_ble_eq_true rfl, Nat.le_of_ble_eq_true rfl⟩) (mP_V (r := (RX3, TX3, 11)) hN hE (S_4f kf2 kf3 kf4 kf5) rfl) rfl rfl hl.1 rfl (lv_room (Nat.le_of_ble_eq_true rfl)) dX3_comes_78 ⟨Nat.le_of_ble_eq_true rfl, Nat.le_of_ble_eq_true rfl⟩) hE.2.2.2 (fun q _ h => mE_A hE q h) (mE_A hE) (fun r uq tq H locs ht hvm hw hB hz1 hk1 hS => ?_)
      obtain ⟨rfl, kv8, rfl, kq9⟩ := hw
      have hE : mE G (mA ad (Sy cy ad cn ck v o) s.heap.size) s.heap ad (Sy cy ad cn ck kv8 o) H locs := mE_call hE hB ht hS
      have kf10 : kv8 4 0 = nI 2 := kq9.2.1
      have kf11 : kv8 4 1 = nI n := (kq9.2.2.1).trans kf3
      have kf12 : kv8 4 2 = nI k := (kq9.2.2.2).trans kf4
      exact mx_iret hx hb hr hE hlocks ⟨rfl, ⟨kv8, rfl, fun w h4 h10 h11 => ((kq9.1 w h4 h10 h11).trans (show kv1 w = v w by rw [hkv1, va_up_n _ _ h4])), kf10, (kf11.trans hm1.symm), (kf12.trans hm2.symm)⟩⟩ dX3_comes_81
    · skip
      have c7 : ¬ 0 = 0 := fun h9 => c7 ((mz_eq (by omega)).mpr h9)
      exfalso; omega
  · skip
    have c6 := (mz_eq (by omega)).mp c6
    exfalso; omega

set_option maxHeartbeats 4000000 in
set_option maxRecDepth 100000 in
/-- comes -/
theorem x_X3_comes3 (l : Launch) (G : va_G) (cy : Nat → ClassId) (ad : Nat → Nat) (cn ck n k : Nat) (v : Nat → Nat → Int32) (o : Nat → Int64) (hn : n ≤ 6) (hk : k ≤ 20) (sz : Nat) (hm1 : v 4 1 = nI n) (hm2 : v 4 2 = nI k) (d : Nat) (h_d : d < 16) (t9 : Nat) (h_t9 : t9 < 10000) (x : Int32) (hbad : x < 0 ∨ nI 997 ≤ x) (z3 : Int32) (z4 : Int32) (z5 : Int32) : mMi l yX3_comes wsX3_comes ({ frames := 10, cells := 0, slots := 0, locals := 220 }) G cy ad (Sy cy ad cn ck v o) sz [.ref (ad 4), .int (nI d), .int (nI t9), .int x, .int z3, .int z4, .int z5] 0 0 (fun (r : Int32) u => r = nI 0 ∧ ∃ v' : Nat → Nat → Int32, u = (ad, Sy cy ad cn ck v' o) ∧ mQT v v' (nI 2)) := by
  refine Met.ofW (cc := cX3_comes) (maxL := 7) (ret := (some .int)) (by decide) rfl ?_
  intro p e s m args below meth c s₁ B hml hv
  obtain ⟨rfl, hv⟩ := hv
  have hsz := hv.1
  subst hsz
  have hN := hv.2.2
  have hE := mP_E hv
  have hx := B.exec
  have hb := B.bytes
  have hr := B.returns
  have hts := atoms_spec (ws := wsX3_comes) B.pre
  have hown : s.vm.findClass RX3 = some m.cls := findClass_of_methodNamed B.named
  have hlocks := B.notSynchronized
  have hiX3 : ∀ w ∈ wsX30, w ∈ wsX3_comes := by decide +kernel
  have hl := lv_entry ([.ref (ad 4), .int (nI d), .int (nI t9), .int x, .int z3, .int z4, .int z5]) (n := 7) (Nat.le_of_ble_eq_true rfl)
  rw [lg_entry_eq]
  generalize (lg_sl ([.ref (ad 4), .int (nI d), .int (nI t9), .int x, .int z3, .int z4, .int z5]) ++ List.replicate (7 - (lg_sl ([.ref (ad 4), .int (nI d), .int (nI t9), .int x, .int z3, .int z4, .int z5])).length) Slot.unset).toArray = ls at hl ⊢
  have hl : lv_has ls 7 [(0, .ref (ad 4)), (1, .int (nI d)), (2, .int (nI t9)), (3, .int x), (4, .int z3), (5, .int z4), (6, .int z5)] := hl
  refine lv_aload_n hx hb dX3_comes_0 rfl (lv_at hl 0 rfl) ?_
  refine lv_iconst (v := nI 0) hx hb dX3_comes_1 (by decide) ?_
  refine mx_put (ci := 3) (v := .int (nI 0)) (ty := .int) (C := RX3) (T := TX3) (N := 11) hx hb hts hiX3 tyX3 tyX3_ok nmX3 hown hN hE (S_4f rfl hm1 hm2 rfl) rfl 0 (by decide) (hts (.fieldLink RX3 31 "SealedCupboardsModel" "thrown" "I") (by decide +kernel)) (fun _ h9 => h9) rfl (by decide +kernel) rfl rfl (Nat.le_of_ble_eq_true rfl) dX3_comes_2 (fun H locs hE => ?_)
  obtain ⟨kv1, hkv1⟩ : ∃ y99, y99 = va_up v 4 (upd (v 4) 0 (nI 0)) := ⟨_, rfl⟩
  have hE : mE G (mA ad (Sy cy ad cn ck v o) s.heap.size) s.heap ad (Sy cy ad cn ck kv1 o) H locs := by rw [hkv1]; exact (S_4u (upd_s _ _ _) ((upd_n _ _ (by decide)).trans hm1) ((upd_n _ _ (by decide)).trans hm2) ((upd_n _ _ (by decide)).trans rfl)) ▸ hE
  have kf2 : kv1 4 0 = nI 0 := by rw [hkv1, va_up_s, upd_s]
  have kf3 : kv1 4 1 = nI n := by rw [hkv1, va_up_s, upd_n _ _ (by decide)]; exact hm1
  have kf4 : kv1 4 2 = nI k := by rw [hkv1, va_up_s, upd_n _ _ (by decide)]; exact hm2
  have kf5 : kv1 4 10 = v 4 10 := by rw [hkv1, va_up_s, upd_n _ _ (by decide)]
  refine lv_iload_n hx hb dX3_comes_5 rfl (lv_at hl 1 rfl) ?_
  refine va_calli (va_runS (As := [.int (nI d)]) (rest := []) ⟨hx, hb, hml, hown, hts⟩ (c_X3_isDrawer l G cy ad (Sy cy ad cn ck kv1 o) _ d (by omega)) (va_cwS 1 hts gX3_comes_X3_isDrawer rfl rfl rfl (by decide +kernel) ⟨Nat.le_of_ble_eq_true rfl, Nat.le_of_ble_eq_true rfl⟩) (mP_S hN hE) rfl rfl hl.1 rfl (lv_room (Nat.le_of_ble_eq_true rfl)) dX3_comes_6 ⟨Nat.le_of_ble_eq_true rfl, Nat.le_of_ble_eq_true rfl⟩) hE.2.2.2 (fun q _ h => mE_A hE q h) (mE_A hE) (fun r uq tq H locs ht hvm hw hB hz1 hk1 hS => ?_)
  obtain ⟨rfl, rfl⟩ := hw
  have hE : mE G (mA ad (Sy cy ad cn ck v o) s.heap.size) s.heap ad (Sy cy ad cn ck kv1 o) H locs := mE_call hE hB ht hS
  refine lv_if_ne (tgt := 18) hx hb dX3_comes_9 (by decide) (fun c6 => ?_) (fun c6 => ?_)
  · skip
    have c6 : ¬ 1 = 0 := fun h9 => c6 ((mz_eq (by omega)).mpr h9)
    refine lv_iload_n hx hb dX3_comes_18 rfl (lv_at hl 2 rfl) ?_
    refine lv_iconst (v := nI 0) hx hb dX3_comes_19 (by decide) ?_
    refine lv_sipush (v := nI 9999) hx hb dX3_comes_20 (by decide) ?_
    refine va_calli (va_runS (As := [.int (nI t9), .int (nI 0), .int (nI 9999)]) (rest := []) ⟨hx, hb, hml, hown, hts⟩ (c_X3_isIn l G cy ad (Sy cy ad cn ck kv1 o) _ t9 0 9999 (by omega) (by omega) (by omega)) (va_cwS 3 hts gX3_comes_X3_isIn rfl rfl rfl (by decide +kernel) ⟨Nat.le_of_ble_eq_true rfl, Nat.le_of_ble_eq_true rfl⟩) (mP_S hN hE) rfl rfl hl.1 rfl (lv_room (Nat.le_of_ble_eq_true rfl)) dX3_comes_23 ⟨Nat.le_of_ble_eq_true rfl, Nat.le_of_ble_eq_true rfl⟩) hE.2.2.2 (fun q _ h => mE_A hE q h) (mE_A hE) (fun r uq tq H locs ht hvm hw hB hz1 hk1 hS => ?_)
    obtain ⟨rfl, rfl⟩ := hw
    have hE : mE G (mA ad (Sy cy ad cn ck v o) s.heap.size) s.heap ad (Sy cy ad cn ck kv1 o) H locs := mE_call hE hB ht hS
    refine lv_if_eq (tgt := 76) hx hb dX3_comes_26 (by decide) (fun c7 => ?_) (fun c7 => ?_)
    · skip
      have c7 := (mz_eq (by omega)).mp c7
      exfalso; omega
    · skip
      have c7 : ¬ 1 = 0 := fun h9 => c7 ((mz_eq (by omega)).mpr h9)
      refine lv_iload_n hx hb dX3_comes_29 rfl (lv_at hl 3 rfl) ?_
      refine lv_iconst (v := nI 0) hx hb dX3_comes_30 (by decide) ?_
      refine lv_sipush (v := nI 996) hx hb dX3_comes_31 (by decide) ?_
      refine va_calli (va_runS (As := [.int x, .int (nI 0), .int (nI 996)]) (rest := []) ⟨hx, hb, hml, hown, hts⟩ (x_X3_isIn l G cy ad (Sy cy ad cn ck kv1 o) _ x (nI 0) (nI 996) (mi_bad hbad rfl (by decide))) (va_cwS 3 hts gX3_comes_X3_isIn rfl rfl rfl (by decide +kernel) ⟨Nat.le_of_ble_eq_true rfl, Nat.le_of_ble_eq_true rfl⟩) (mP_S hN hE) rfl rfl hl.1 rfl (lv_room (Nat.le_of_ble_eq_true rfl)) dX3_comes_34 ⟨Nat.le_of_ble_eq_true rfl, Nat.le_of_ble_eq_true rfl⟩) hE.2.2.2 (fun q _ h => mE_A hE q h) (mE_A hE) (fun r uq tq H locs ht hvm hw hB hz1 hk1 hS => ?_)
      obtain ⟨rfl, rfl⟩ := hw
      have hE : mE G (mA ad (Sy cy ad cn ck v o) s.heap.size) s.heap ad (Sy cy ad cn ck kv1 o) H locs := mE_call hE hB ht hS
      refine lv_if_eq (tgt := 76) hx hb dX3_comes_37 (by decide) (fun c8 => ?_) (fun c8 => ?_)
      · skip
        have c8 := (mz_eq (by omega)).mp c8
        refine lv_aload_n hx hb dX3_comes_76 rfl (lv_at hl 0 rfl) ?_
        refine lv_iconst (v := nI 2) hx hb dX3_comes_77 (by decide) ?_
        refine va_calli (va_runV (As := [.int (nI 2)]) (rest := []) ⟨hx, hb, hml, hown, hts⟩ (c_X3_fail l G cy ad cn ck n k kv1 o hn hk _ kf3 kf4 (nI 2)) (cwV 1 hts gX3_comes_X3_fail rfl rfl rfl (by decide +kernel) ⟨Nat.le_of_ble_eq_true rfl, Nat.le_of_ble_eq_true rfl⟩) (mP_V (r := (RX3, TX3, 11)) hN hE (S_4f kf2 kf3 kf4 kf5) rfl) rfl rfl hl.1 rfl (lv_room (Nat.le_of_ble_eq_true rfl)) dX3_comes_78 ⟨Nat.le_of_ble_eq_true rfl, Nat.le_of_ble_eq_true rfl⟩) hE.2.2.2 (fun q _ h => mE_A hE q h) (mE_A hE) (fun r uq tq H locs ht hvm hw hB hz1 hk1 hS => ?_)
        obtain ⟨rfl, kv9, rfl, kq10⟩ := hw
        have hE : mE G (mA ad (Sy cy ad cn ck v o) s.heap.size) s.heap ad (Sy cy ad cn ck kv9 o) H locs := mE_call hE hB ht hS
        have kf11 : kv9 4 0 = nI 2 := kq10.2.1
        have kf12 : kv9 4 1 = nI n := (kq10.2.2.1).trans kf3
        have kf13 : kv9 4 2 = nI k := (kq10.2.2.2).trans kf4
        exact mx_iret hx hb hr hE hlocks ⟨rfl, ⟨kv9, rfl, fun w h4 h10 h11 => ((kq10.1 w h4 h10 h11).trans (show kv1 w = v w by rw [hkv1, va_up_n _ _ h4])), kf11, (kf12.trans hm1.symm), (kf13.trans hm2.symm)⟩⟩ dX3_comes_81
      · skip
        have c8 : ¬ 0 = 0 := fun h9 => c8 ((mz_eq (by omega)).mpr h9)
        exfalso; omega
  · skip
    have c6 := (mz_eq (by omega)).mp c6
    exfalso; omega

set_option maxHeartbeats 4000000 in
set_option maxRecDepth 100000 in
/-- comes -/
theorem x_X3_comes4 (l : Launch) (G : va_G) (cy : Nat → ClassId) (ad : Nat → Nat) (cn ck n k : Nat) (v : Nat → Nat → Int32) (o : Nat → Int64) (hn : n ≤ 6) (hk : k ≤ 20) (sz : Nat) (hm1 : v 4 1 = nI n) (hm2 : v 4 2 = nI k) (d : Nat) (h_d : d < 16) (t9 : Nat) (h_t9 : t9 < 10000) (a1 : Nat) (h_a1 : a1 < 997) (x : Int32) (hbad : x < 0 ∨ nI 997 ≤ x) (z4 : Int32) (z5 : Int32) : mMi l yX3_comes wsX3_comes ({ frames := 10, cells := 0, slots := 0, locals := 220 }) G cy ad (Sy cy ad cn ck v o) sz [.ref (ad 4), .int (nI d), .int (nI t9), .int (nI a1), .int x, .int z4, .int z5] 0 0 (fun (r : Int32) u => r = nI 0 ∧ ∃ v' : Nat → Nat → Int32, u = (ad, Sy cy ad cn ck v' o) ∧ mQT v v' (nI 2)) := by
  refine Met.ofW (cc := cX3_comes) (maxL := 7) (ret := (some .int)) (by decide) rfl ?_
  intro p e s m args below meth c s₁ B hml hv
  obtain ⟨rfl, hv⟩ := hv
  have hsz := hv.1
  subst hsz
  have hN := hv.2.2
  have hE := mP_E hv
  have hx := B.exec
  have hb := B.bytes
  have hr := B.returns
  have hts := atoms_spec (ws := wsX3_comes) B.pre
  have hown : s.vm.findClass RX3 = some m.cls := findClass_of_methodNamed B.named
  have hlocks := B.notSynchronized
  have hiX3 : ∀ w ∈ wsX30, w ∈ wsX3_comes := by decide +kernel
  have hl := lv_entry ([.ref (ad 4), .int (nI d), .int (nI t9), .int (nI a1), .int x, .int z4, .int z5]) (n := 7) (Nat.le_of_ble_eq_true rfl)
  rw [lg_entry_eq]
  generalize (lg_sl ([.ref (ad 4), .int (nI d), .int (nI t9), .int (nI a1), .int x, .int z4, .int z5]) ++ List.replicate (7 - (lg_sl ([.ref (ad 4), .int (nI d), .int (nI t9), .int (nI a1), .int x, .int z4, .int z5])).length) Slot.unset).toArray = ls at hl ⊢
  have hl : lv_has ls 7 [(0, .ref (ad 4)), (1, .int (nI d)), (2, .int (nI t9)), (3, .int (nI a1)), (4, .int x), (5, .int z4), (6, .int z5)] := hl
  refine lv_aload_n hx hb dX3_comes_0 rfl (lv_at hl 0 rfl) ?_
  refine lv_iconst (v := nI 0) hx hb dX3_comes_1 (by decide) ?_
  refine mx_put (ci := 3) (v := .int (nI 0)) (ty := .int) (C := RX3) (T := TX3) (N := 11) hx hb hts hiX3 tyX3 tyX3_ok nmX3 hown hN hE (S_4f rfl hm1 hm2 rfl) rfl 0 (by decide) (hts (.fieldLink RX3 31 "SealedCupboardsModel" "thrown" "I") (by decide +kernel)) (fun _ h9 => h9) rfl (by decide +kernel) rfl rfl (Nat.le_of_ble_eq_true rfl) dX3_comes_2 (fun H locs hE => ?_)
  obtain ⟨kv1, hkv1⟩ : ∃ y99, y99 = va_up v 4 (upd (v 4) 0 (nI 0)) := ⟨_, rfl⟩
  have hE : mE G (mA ad (Sy cy ad cn ck v o) s.heap.size) s.heap ad (Sy cy ad cn ck kv1 o) H locs := by rw [hkv1]; exact (S_4u (upd_s _ _ _) ((upd_n _ _ (by decide)).trans hm1) ((upd_n _ _ (by decide)).trans hm2) ((upd_n _ _ (by decide)).trans rfl)) ▸ hE
  have kf2 : kv1 4 0 = nI 0 := by rw [hkv1, va_up_s, upd_s]
  have kf3 : kv1 4 1 = nI n := by rw [hkv1, va_up_s, upd_n _ _ (by decide)]; exact hm1
  have kf4 : kv1 4 2 = nI k := by rw [hkv1, va_up_s, upd_n _ _ (by decide)]; exact hm2
  have kf5 : kv1 4 10 = v 4 10 := by rw [hkv1, va_up_s, upd_n _ _ (by decide)]
  refine lv_iload_n hx hb dX3_comes_5 rfl (lv_at hl 1 rfl) ?_
  refine va_calli (va_runS (As := [.int (nI d)]) (rest := []) ⟨hx, hb, hml, hown, hts⟩ (c_X3_isDrawer l G cy ad (Sy cy ad cn ck kv1 o) _ d (by omega)) (va_cwS 1 hts gX3_comes_X3_isDrawer rfl rfl rfl (by decide +kernel) ⟨Nat.le_of_ble_eq_true rfl, Nat.le_of_ble_eq_true rfl⟩) (mP_S hN hE) rfl rfl hl.1 rfl (lv_room (Nat.le_of_ble_eq_true rfl)) dX3_comes_6 ⟨Nat.le_of_ble_eq_true rfl, Nat.le_of_ble_eq_true rfl⟩) hE.2.2.2 (fun q _ h => mE_A hE q h) (mE_A hE) (fun r uq tq H locs ht hvm hw hB hz1 hk1 hS => ?_)
  obtain ⟨rfl, rfl⟩ := hw
  have hE : mE G (mA ad (Sy cy ad cn ck v o) s.heap.size) s.heap ad (Sy cy ad cn ck kv1 o) H locs := mE_call hE hB ht hS
  refine lv_if_ne (tgt := 18) hx hb dX3_comes_9 (by decide) (fun c6 => ?_) (fun c6 => ?_)
  · skip
    have c6 : ¬ 1 = 0 := fun h9 => c6 ((mz_eq (by omega)).mpr h9)
    refine lv_iload_n hx hb dX3_comes_18 rfl (lv_at hl 2 rfl) ?_
    refine lv_iconst (v := nI 0) hx hb dX3_comes_19 (by decide) ?_
    refine lv_sipush (v := nI 9999) hx hb dX3_comes_20 (by decide) ?_
    refine va_calli (va_runS (As := [.int (nI t9), .int (nI 0), .int (nI 9999)]) (rest := []) ⟨hx, hb, hml, hown, hts⟩ (c_X3_isIn l G cy ad (Sy cy ad cn ck kv1 o) _ t9 0 9999 (by omega) (by omega) (by omega)) (va_cwS 3 hts gX3_comes_X3_isIn rfl rfl rfl (by decide +kernel) ⟨Nat.le_of_ble_eq_true rfl, Nat.le_of_ble_eq_true rfl⟩) (mP_S hN hE) rfl rfl hl.1 rfl (lv_room (Nat.le_of_ble_eq_true rfl)) dX3_comes_23 ⟨Nat.le_of_ble_eq_true rfl, Nat.le_of_ble_eq_true rfl⟩) hE.2.2.2 (fun q _ h => mE_A hE q h) (mE_A hE) (fun r uq tq H locs ht hvm hw hB hz1 hk1 hS => ?_)
    obtain ⟨rfl, rfl⟩ := hw
    have hE : mE G (mA ad (Sy cy ad cn ck v o) s.heap.size) s.heap ad (Sy cy ad cn ck kv1 o) H locs := mE_call hE hB ht hS
    refine lv_if_eq (tgt := 76) hx hb dX3_comes_26 (by decide) (fun c7 => ?_) (fun c7 => ?_)
    · skip
      have c7 := (mz_eq (by omega)).mp c7
      exfalso; omega
    · skip
      have c7 : ¬ 1 = 0 := fun h9 => c7 ((mz_eq (by omega)).mpr h9)
      refine lv_iload_n hx hb dX3_comes_29 rfl (lv_at hl 3 rfl) ?_
      refine lv_iconst (v := nI 0) hx hb dX3_comes_30 (by decide) ?_
      refine lv_sipush (v := nI 996) hx hb dX3_comes_31 (by decide) ?_
      refine va_calli (va_runS (As := [.int (nI a1), .int (nI 0), .int (nI 996)]) (rest := []) ⟨hx, hb, hml, hown, hts⟩ (c_X3_isIn l G cy ad (Sy cy ad cn ck kv1 o) _ a1 0 996 (by omega) (by omega) (by omega)) (va_cwS 3 hts gX3_comes_X3_isIn rfl rfl rfl (by decide +kernel) ⟨Nat.le_of_ble_eq_true rfl, Nat.le_of_ble_eq_true rfl⟩) (mP_S hN hE) rfl rfl hl.1 rfl (lv_room (Nat.le_of_ble_eq_true rfl)) dX3_comes_34 ⟨Nat.le_of_ble_eq_true rfl, Nat.le_of_ble_eq_true rfl⟩) hE.2.2.2 (fun q _ h => mE_A hE q h) (mE_A hE) (fun r uq tq H locs ht hvm hw hB hz1 hk1 hS => ?_)
      obtain ⟨rfl, rfl⟩ := hw
      have hE : mE G (mA ad (Sy cy ad cn ck v o) s.heap.size) s.heap ad (Sy cy ad cn ck kv1 o) H locs := mE_call hE hB ht hS
      refine lv_if_eq (tgt := 76) hx hb dX3_comes_37 (by decide) (fun c8 => ?_) (fun c8 => ?_)
      · skip
        have c8 := (mz_eq (by omega)).mp c8
        exfalso; omega
      · skip
        have c8 : ¬ 1 = 0 := fun h9 => c8 ((mz_eq (by omega)).mpr h9)
        refine lv_iload hx hb dX3_comes_40 (lv_at hl 4 rfl) ?_
        refine lv_iconst (v := nI 0) hx hb dX3_comes_42 (by decide) ?_
        refine lv_sipush (v := nI 996) hx hb dX3_comes_43 (by decide) ?_
        refine va_calli (va_runS (As := [.int x, .int (nI 0), .int (nI 996)]) (rest := []) ⟨hx, hb, hml, hown, hts⟩ (x_X3_isIn l G cy ad (Sy cy ad cn ck kv1 o) _ x (nI 0) (nI 996) (mi_bad hbad rfl (by decide))) (va_cwS 3 hts gX3_comes_X3_isIn rfl rfl rfl (by decide +kernel) ⟨Nat.le_of_ble_eq_true rfl, Nat.le_of_ble_eq_true rfl⟩) (mP_S hN hE) rfl rfl hl.1 rfl (lv_room (Nat.le_of_ble_eq_true rfl)) dX3_comes_46 ⟨Nat.le_of_ble_eq_true rfl, Nat.le_of_ble_eq_true rfl⟩) hE.2.2.2 (fun q _ h => mE_A hE q h) (mE_A hE) (fun r uq tq H locs ht hvm hw hB hz1 hk1 hS => ?_)
        obtain ⟨rfl, rfl⟩ := hw
        have hE : mE G (mA ad (Sy cy ad cn ck v o) s.heap.size) s.heap ad (Sy cy ad cn ck kv1 o) H locs := mE_call hE hB ht hS
        refine lv_if_eq (tgt := 76) hx hb dX3_comes_49 (by decide) (fun c9 => ?_) (fun c9 => ?_)
        · skip
          have c9 := (mz_eq (by omega)).mp c9
          refine lv_aload_n hx hb dX3_comes_76 rfl (lv_at hl 0 rfl) ?_
          refine lv_iconst (v := nI 2) hx hb dX3_comes_77 (by decide) ?_
          refine va_calli (va_runV (As := [.int (nI 2)]) (rest := []) ⟨hx, hb, hml, hown, hts⟩ (c_X3_fail l G cy ad cn ck n k kv1 o hn hk _ kf3 kf4 (nI 2)) (cwV 1 hts gX3_comes_X3_fail rfl rfl rfl (by decide +kernel) ⟨Nat.le_of_ble_eq_true rfl, Nat.le_of_ble_eq_true rfl⟩) (mP_V (r := (RX3, TX3, 11)) hN hE (S_4f kf2 kf3 kf4 kf5) rfl) rfl rfl hl.1 rfl (lv_room (Nat.le_of_ble_eq_true rfl)) dX3_comes_78 ⟨Nat.le_of_ble_eq_true rfl, Nat.le_of_ble_eq_true rfl⟩) hE.2.2.2 (fun q _ h => mE_A hE q h) (mE_A hE) (fun r uq tq H locs ht hvm hw hB hz1 hk1 hS => ?_)
          obtain ⟨rfl, kv10, rfl, kq11⟩ := hw
          have hE : mE G (mA ad (Sy cy ad cn ck v o) s.heap.size) s.heap ad (Sy cy ad cn ck kv10 o) H locs := mE_call hE hB ht hS
          have kf12 : kv10 4 0 = nI 2 := kq11.2.1
          have kf13 : kv10 4 1 = nI n := (kq11.2.2.1).trans kf3
          have kf14 : kv10 4 2 = nI k := (kq11.2.2.2).trans kf4
          exact mx_iret hx hb hr hE hlocks ⟨rfl, ⟨kv10, rfl, fun w h4 h10 h11 => ((kq11.1 w h4 h10 h11).trans (show kv1 w = v w by rw [hkv1, va_up_n _ _ h4])), kf12, (kf13.trans hm1.symm), (kf14.trans hm2.symm)⟩⟩ dX3_comes_81
        · skip
          have c9 : ¬ 0 = 0 := fun h9 => c9 ((mz_eq (by omega)).mpr h9)
          exfalso; omega
  · skip
    have c6 := (mz_eq (by omega)).mp c6
    exfalso; omega

set_option maxHeartbeats 4000000 in
set_option maxRecDepth 100000 in
/-- comes -/
theorem x_X3_comes5 (l : Launch) (G : va_G) (cy : Nat → ClassId) (ad : Nat → Nat) (cn ck n k : Nat) (v : Nat → Nat → Int32) (o : Nat → Int64) (hn : n ≤ 6) (hk : k ≤ 20) (sz : Nat) (hm1 : v 4 1 = nI n) (hm2 : v 4 2 = nI k) (d : Nat) (h_d : d < 16) (t9 : Nat) (h_t9 : t9 < 10000) (a1 : Nat) (h_a1 : a1 < 997) (a2 : Nat) (h_a2 : a2 < 997) (x : Int32) (hbad : x < 0 ∨ nI 997 ≤ x) (z5 : Int32) : mMi l yX3_comes wsX3_comes ({ frames := 10, cells := 0, slots := 0, locals := 220 }) G cy ad (Sy cy ad cn ck v o) sz [.ref (ad 4), .int (nI d), .int (nI t9), .int (nI a1), .int (nI a2), .int x, .int z5] 0 0 (fun (r : Int32) u => r = nI 0 ∧ ∃ v' : Nat → Nat → Int32, u = (ad, Sy cy ad cn ck v' o) ∧ mQT v v' (nI 2)) := by
  refine Met.ofW (cc := cX3_comes) (maxL := 7) (ret := (some .int)) (by decide) rfl ?_
  intro p e s m args below meth c s₁ B hml hv
  obtain ⟨rfl, hv⟩ := hv
  have hsz := hv.1
  subst hsz
  have hN := hv.2.2
  have hE := mP_E hv
  have hx := B.exec
  have hb := B.bytes
  have hr := B.returns
  have hts := atoms_spec (ws := wsX3_comes) B.pre
  have hown : s.vm.findClass RX3 = some m.cls := findClass_of_methodNamed B.named
  have hlocks := B.notSynchronized
  have hiX3 : ∀ w ∈ wsX30, w ∈ wsX3_comes := by decide +kernel
  have hl := lv_entry ([.ref (ad 4), .int (nI d), .int (nI t9), .int (nI a1), .int (nI a2), .int x, .int z5]) (n := 7) (Nat.le_of_ble_eq_true rfl)
  rw [lg_entry_eq]
  generalize (lg_sl ([.ref (ad 4), .int (nI d), .int (nI t9), .int (nI a1), .int (nI a2), .int x, .int z5]) ++ List.replicate (7 - (lg_sl ([.ref (ad 4), .int (nI d), .int (nI t9), .int (nI a1), .int (nI a2), .int x, .int z5])).length) Slot.unset).toArray = ls at hl ⊢
  have hl : lv_has ls 7 [(0, .ref (ad 4)), (1, .int (nI d)), (2, .int (nI t9)), (3, .int (nI a1)), (4, .int (nI a2)), (5, .int x), (6, .int z5)] := hl
  refine lv_aload_n hx hb dX3_comes_0 rfl (lv_at hl 0 rfl) ?_
  refine lv_iconst (v := nI 0) hx hb dX3_comes_1 (by decide) ?_
  refine mx_put (ci := 3) (v := .int (nI 0)) (ty := .int) (C := RX3) (T := TX3) (N := 11) hx hb hts hiX3 tyX3 tyX3_ok nmX3 hown hN hE (S_4f rfl hm1 hm2 rfl) rfl 0 (by decide) (hts (.fieldLink RX3 31 "SealedCupboardsModel" "thrown" "I") (by decide +kernel)) (fun _ h9 => h9) rfl (by decide +kernel) rfl rfl (Nat.le_of_ble_eq_true rfl) dX3_comes_2 (fun H locs hE => ?_)
  obtain ⟨kv1, hkv1⟩ : ∃ y99, y99 = va_up v 4 (upd (v 4) 0 (nI 0)) := ⟨_, rfl⟩
  have hE : mE G (mA ad (Sy cy ad cn ck v o) s.heap.size) s.heap ad (Sy cy ad cn ck kv1 o) H locs := by rw [hkv1]; exact (S_4u (upd_s _ _ _) ((upd_n _ _ (by decide)).trans hm1) ((upd_n _ _ (by decide)).trans hm2) ((upd_n _ _ (by decide)).trans rfl)) ▸ hE
  have kf2 : kv1 4 0 = nI 0 := by rw [hkv1, va_up_s, upd_s]
  have kf3 : kv1 4 1 = nI n := by rw [hkv1, va_up_s, upd_n _ _ (by decide)]; exact hm1
  have kf4 : kv1 4 2 = nI k := by rw [hkv1, va_up_s, upd_n _ _ (by decide)]; exact hm2
  have kf5 : kv1 4 10 = v 4 10 := by rw [hkv1, va_up_s, upd_n _ _ (by decide)]
  refine lv_iload_n hx hb dX3_comes_5 rfl (lv_at hl 1 rfl) ?_
  refine va_calli (va_runS (As := [.int (nI d)]) (rest := []) ⟨hx, hb, hml, hown, hts⟩ (c_X3_isDrawer l G cy ad (Sy cy ad cn ck kv1 o) _ d (by omega)) (va_cwS 1 hts gX3_comes_X3_isDrawer rfl rfl rfl (by decide +kernel) ⟨Nat.le_of_ble_eq_true rfl, Nat.le_of_ble_eq_true rfl⟩) (mP_S hN hE) rfl rfl hl.1 rfl (lv_room (Nat.le_of_ble_eq_true rfl)) dX3_comes_6 ⟨Nat.le_of_ble_eq_true rfl, Nat.le_of_ble_eq_true rfl⟩) hE.2.2.2 (fun q _ h => mE_A hE q h) (mE_A hE) (fun r uq tq H locs ht hvm hw hB hz1 hk1 hS => ?_)
  obtain ⟨rfl, rfl⟩ := hw
  have hE : mE G (mA ad (Sy cy ad cn ck v o) s.heap.size) s.heap ad (Sy cy ad cn ck kv1 o) H locs := mE_call hE hB ht hS
  refine lv_if_ne (tgt := 18) hx hb dX3_comes_9 (by decide) (fun c6 => ?_) (fun c6 => ?_)
  · skip
    have c6 : ¬ 1 = 0 := fun h9 => c6 ((mz_eq (by omega)).mpr h9)
    refine lv_iload_n hx hb dX3_comes_18 rfl (lv_at hl 2 rfl) ?_
    refine lv_iconst (v := nI 0) hx hb dX3_comes_19 (by decide) ?_
    refine lv_sipush (v := nI 9999) hx hb dX3_comes_20 (by decide) ?_
    refine va_calli (va_runS (As := [.int (nI t9), .int (nI 0), .int (nI 9999)]) (rest := []) ⟨hx, hb, hml, hown, hts⟩ (c_X3_isIn l G cy ad (Sy cy ad cn ck kv1 o) _ t9 0 9999 (by omega) (by omega) (by omega)) (va_cwS 3 hts gX3_comes_X3_isIn rfl rfl rfl (by decide +kernel) ⟨Nat.le_of_ble_eq_true rfl, Nat.le_of_ble_eq_true rfl⟩) (mP_S hN hE) rfl rfl hl.1 rfl (lv_room (Nat.le_of_ble_eq_true rfl)) dX3_comes_23 ⟨Nat.le_of_ble_eq_true rfl, Nat.le_of_ble_eq_true rfl⟩) hE.2.2.2 (fun q _ h => mE_A hE q h) (mE_A hE) (fun r uq tq H locs ht hvm hw hB hz1 hk1 hS => ?_)
    obtain ⟨rfl, rfl⟩ := hw
    have hE : mE G (mA ad (Sy cy ad cn ck v o) s.heap.size) s.heap ad (Sy cy ad cn ck kv1 o) H locs := mE_call hE hB ht hS
    refine lv_if_eq (tgt := 76) hx hb dX3_comes_26 (by decide) (fun c7 => ?_) (fun c7 => ?_)
    · skip
      have c7 := (mz_eq (by omega)).mp c7
      exfalso; omega
    · skip
      have c7 : ¬ 1 = 0 := fun h9 => c7 ((mz_eq (by omega)).mpr h9)
      refine lv_iload_n hx hb dX3_comes_29 rfl (lv_at hl 3 rfl) ?_
      refine lv_iconst (v := nI 0) hx hb dX3_comes_30 (by decide) ?_
      refine lv_sipush (v := nI 996) hx hb dX3_comes_31 (by decide) ?_
      refine va_calli (va_runS (As := [.int (nI a1), .int (nI 0), .int (nI 996)]) (rest := []) ⟨hx, hb, hml, hown, hts⟩ (c_X3_isIn l G cy ad (Sy cy ad cn ck kv1 o) _ a1 0 996 (by omega) (by omega) (by omega)) (va_cwS 3 hts gX3_comes_X3_isIn rfl rfl rfl (by decide +kernel) ⟨Nat.le_of_ble_eq_true rfl, Nat.le_of_ble_eq_true rfl⟩) (mP_S hN hE) rfl rfl hl.1 rfl (lv_room (Nat.le_of_ble_eq_true rfl)) dX3_comes_34 ⟨Nat.le_of_ble_eq_true rfl, Nat.le_of_ble_eq_true rfl⟩) hE.2.2.2 (fun q _ h => mE_A hE q h) (mE_A hE) (fun r uq tq H locs ht hvm hw hB hz1 hk1 hS => ?_)
      obtain ⟨rfl, rfl⟩ := hw
      have hE : mE G (mA ad (Sy cy ad cn ck v o) s.heap.size) s.heap ad (Sy cy ad cn ck kv1 o) H locs := mE_call hE hB ht hS
      refine lv_if_eq (tgt := 76) hx hb dX3_comes_37 (by decide) (fun c8 => ?_) (fun c8 => ?_)
      · skip
        have c8 := (mz_eq (by omega)).mp c8
        exfalso; omega
      · skip
        have c8 : ¬ 1 = 0 := fun h9 => c8 ((mz_eq (by omega)).mpr h9)
        refine lv_iload hx hb dX3_comes_40 (lv_at hl 4 rfl) ?_
        refine lv_iconst (v := nI 0) hx hb dX3_comes_42 (by decide) ?_
        refine lv_sipush (v := nI 996) hx hb dX3_comes_43 (by decide) ?_
        refine va_calli (va_runS (As := [.int (nI a2), .int (nI 0), .int (nI 996)]) (rest := []) ⟨hx, hb, hml, hown, hts⟩ (c_X3_isIn l G cy ad (Sy cy ad cn ck kv1 o) _ a2 0 996 (by omega) (by omega) (by omega)) (va_cwS 3 hts gX3_comes_X3_isIn rfl rfl rfl (by decide +kernel) ⟨Nat.le_of_ble_eq_true rfl, Nat.le_of_ble_eq_true rfl⟩) (mP_S hN hE) rfl rfl hl.1 rfl (lv_room (Nat.le_of_ble_eq_true rfl)) dX3_comes_46 ⟨Nat.le_of_ble_eq_true rfl, Nat.le_of_ble_eq_true rfl⟩) hE.2.2.2 (fun q _ h => mE_A hE q h) (mE_A hE) (fun r uq tq H locs ht hvm hw hB hz1 hk1 hS => ?_)
        obtain ⟨rfl, rfl⟩ := hw
        have hE : mE G (mA ad (Sy cy ad cn ck v o) s.heap.size) s.heap ad (Sy cy ad cn ck kv1 o) H locs := mE_call hE hB ht hS
        refine lv_if_eq (tgt := 76) hx hb dX3_comes_49 (by decide) (fun c9 => ?_) (fun c9 => ?_)
        · skip
          have c9 := (mz_eq (by omega)).mp c9
          exfalso; omega
        · skip
          have c9 : ¬ 1 = 0 := fun h9 => c9 ((mz_eq (by omega)).mpr h9)
          refine lv_iload hx hb dX3_comes_52 (lv_at hl 5 rfl) ?_
          refine lv_iconst (v := nI 0) hx hb dX3_comes_54 (by decide) ?_
          refine lv_sipush (v := nI 996) hx hb dX3_comes_55 (by decide) ?_
          refine va_calli (va_runS (As := [.int x, .int (nI 0), .int (nI 996)]) (rest := []) ⟨hx, hb, hml, hown, hts⟩ (x_X3_isIn l G cy ad (Sy cy ad cn ck kv1 o) _ x (nI 0) (nI 996) (mi_bad hbad rfl (by decide))) (va_cwS 3 hts gX3_comes_X3_isIn rfl rfl rfl (by decide +kernel) ⟨Nat.le_of_ble_eq_true rfl, Nat.le_of_ble_eq_true rfl⟩) (mP_S hN hE) rfl rfl hl.1 rfl (lv_room (Nat.le_of_ble_eq_true rfl)) dX3_comes_58 ⟨Nat.le_of_ble_eq_true rfl, Nat.le_of_ble_eq_true rfl⟩) hE.2.2.2 (fun q _ h => mE_A hE q h) (mE_A hE) (fun r uq tq H locs ht hvm hw hB hz1 hk1 hS => ?_)
          obtain ⟨rfl, rfl⟩ := hw
          have hE : mE G (mA ad (Sy cy ad cn ck v o) s.heap.size) s.heap ad (Sy cy ad cn ck kv1 o) H locs := mE_call hE hB ht hS
          refine lv_if_eq (tgt := 76) hx hb dX3_comes_61 (by decide) (fun c10 => ?_) (fun c10 => ?_)
          · skip
            have c10 := (mz_eq (by omega)).mp c10
            refine lv_aload_n hx hb dX3_comes_76 rfl (lv_at hl 0 rfl) ?_
            refine lv_iconst (v := nI 2) hx hb dX3_comes_77 (by decide) ?_
            refine va_calli (va_runV (As := [.int (nI 2)]) (rest := []) ⟨hx, hb, hml, hown, hts⟩ (c_X3_fail l G cy ad cn ck n k kv1 o hn hk _ kf3 kf4 (nI 2)) (cwV 1 hts gX3_comes_X3_fail rfl rfl rfl (by decide +kernel) ⟨Nat.le_of_ble_eq_true rfl, Nat.le_of_ble_eq_true rfl⟩) (mP_V (r := (RX3, TX3, 11)) hN hE (S_4f kf2 kf3 kf4 kf5) rfl) rfl rfl hl.1 rfl (lv_room (Nat.le_of_ble_eq_true rfl)) dX3_comes_78 ⟨Nat.le_of_ble_eq_true rfl, Nat.le_of_ble_eq_true rfl⟩) hE.2.2.2 (fun q _ h => mE_A hE q h) (mE_A hE) (fun r uq tq H locs ht hvm hw hB hz1 hk1 hS => ?_)
            obtain ⟨rfl, kv11, rfl, kq12⟩ := hw
            have hE : mE G (mA ad (Sy cy ad cn ck v o) s.heap.size) s.heap ad (Sy cy ad cn ck kv11 o) H locs := mE_call hE hB ht hS
            have kf13 : kv11 4 0 = nI 2 := kq12.2.1
            have kf14 : kv11 4 1 = nI n := (kq12.2.2.1).trans kf3
            have kf15 : kv11 4 2 = nI k := (kq12.2.2.2).trans kf4
            exact mx_iret hx hb hr hE hlocks ⟨rfl, ⟨kv11, rfl, fun w h4 h10 h11 => ((kq12.1 w h4 h10 h11).trans (show kv1 w = v w by rw [hkv1, va_up_n _ _ h4])), kf13, (kf14.trans hm1.symm), (kf15.trans hm2.symm)⟩⟩ dX3_comes_81
          · skip
            have c10 : ¬ 0 = 0 := fun h9 => c10 ((mz_eq (by omega)).mpr h9)
            exfalso; omega
  · skip
    have c6 := (mz_eq (by omega)).mp c6
    exfalso; omega

set_option maxHeartbeats 4000000 in
set_option maxRecDepth 100000 in
/-- comes -/
theorem x_X3_comes6 (l : Launch) (G : va_G) (cy : Nat → ClassId) (ad : Nat → Nat) (cn ck n k : Nat) (v : Nat → Nat → Int32) (o : Nat → Int64) (hn : n ≤ 6) (hk : k ≤ 20) (sz : Nat) (hm1 : v 4 1 = nI n) (hm2 : v 4 2 = nI k) (d : Nat) (h_d : d < 16) (t9 : Nat) (h_t9 : t9 < 10000) (a1 : Nat) (h_a1 : a1 < 997) (a2 : Nat) (h_a2 : a2 < 997) (a3 : Nat) (h_a3 : a3 < 997) (x : Int32) (hbad : x < 0 ∨ nI 997 ≤ x) : mMi l yX3_comes wsX3_comes ({ frames := 10, cells := 0, slots := 0, locals := 220 }) G cy ad (Sy cy ad cn ck v o) sz [.ref (ad 4), .int (nI d), .int (nI t9), .int (nI a1), .int (nI a2), .int (nI a3), .int x] 0 0 (fun (r : Int32) u => r = nI 0 ∧ ∃ v' : Nat → Nat → Int32, u = (ad, Sy cy ad cn ck v' o) ∧ mQT v v' (nI 2)) := by
  refine Met.ofW (cc := cX3_comes) (maxL := 7) (ret := (some .int)) (by decide) rfl ?_
  intro p e s m args below meth c s₁ B hml hv
  obtain ⟨rfl, hv⟩ := hv
  have hsz := hv.1
  subst hsz
  have hN := hv.2.2
  have hE := mP_E hv
  have hx := B.exec
  have hb := B.bytes
  have hr := B.returns
  have hts := atoms_spec (ws := wsX3_comes) B.pre
  have hown : s.vm.findClass RX3 = some m.cls := findClass_of_methodNamed B.named
  have hlocks := B.notSynchronized
  have hiX3 : ∀ w ∈ wsX30, w ∈ wsX3_comes := by decide +kernel
  have hl := lv_entry ([.ref (ad 4), .int (nI d), .int (nI t9), .int (nI a1), .int (nI a2), .int (nI a3), .int x]) (n := 7) (Nat.le_of_ble_eq_true rfl)
  rw [lg_entry_eq]
  generalize (lg_sl ([.ref (ad 4), .int (nI d), .int (nI t9), .int (nI a1), .int (nI a2), .int (nI a3), .int x]) ++ List.replicate (7 - (lg_sl ([.ref (ad 4), .int (nI d), .int (nI t9), .int (nI a1), .int (nI a2), .int (nI a3), .int x])).length) Slot.unset).toArray = ls at hl ⊢
  have hl : lv_has ls 7 [(0, .ref (ad 4)), (1, .int (nI d)), (2, .int (nI t9)), (3, .int (nI a1)), (4, .int (nI a2)), (5, .int (nI a3)), (6, .int x)] := hl
  refine lv_aload_n hx hb dX3_comes_0 rfl (lv_at hl 0 rfl) ?_
  refine lv_iconst (v := nI 0) hx hb dX3_comes_1 (by decide) ?_
  refine mx_put (ci := 3) (v := .int (nI 0)) (ty := .int) (C := RX3) (T := TX3) (N := 11) hx hb hts hiX3 tyX3 tyX3_ok nmX3 hown hN hE (S_4f rfl hm1 hm2 rfl) rfl 0 (by decide) (hts (.fieldLink RX3 31 "SealedCupboardsModel" "thrown" "I") (by decide +kernel)) (fun _ h9 => h9) rfl (by decide +kernel) rfl rfl (Nat.le_of_ble_eq_true rfl) dX3_comes_2 (fun H locs hE => ?_)
  obtain ⟨kv1, hkv1⟩ : ∃ y99, y99 = va_up v 4 (upd (v 4) 0 (nI 0)) := ⟨_, rfl⟩
  have hE : mE G (mA ad (Sy cy ad cn ck v o) s.heap.size) s.heap ad (Sy cy ad cn ck kv1 o) H locs := by rw [hkv1]; exact (S_4u (upd_s _ _ _) ((upd_n _ _ (by decide)).trans hm1) ((upd_n _ _ (by decide)).trans hm2) ((upd_n _ _ (by decide)).trans rfl)) ▸ hE
  have kf2 : kv1 4 0 = nI 0 := by rw [hkv1, va_up_s, upd_s]
  have kf3 : kv1 4 1 = nI n := by rw [hkv1, va_up_s, upd_n _ _ (by decide)]; exact hm1
  have kf4 : kv1 4 2 = nI k := by rw [hkv1, va_up_s, upd_n _ _ (by decide)]; exact hm2
  have kf5 : kv1 4 10 = v 4 10 := by rw [hkv1, va_up_s, upd_n _ _ (by decide)]
  refine lv_iload_n hx hb dX3_comes_5 rfl (lv_at hl 1 rfl) ?_
  refine va_calli (va_runS (As := [.int (nI d)]) (rest := []) ⟨hx, hb, hml, hown, hts⟩ (c_X3_isDrawer l G cy ad (Sy cy ad cn ck kv1 o) _ d (by omega)) (va_cwS 1 hts gX3_comes_X3_isDrawer rfl rfl rfl (by decide +kernel) ⟨Nat.le_of_ble_eq_true rfl, Nat.le_of_ble_eq_true rfl⟩) (mP_S hN hE) rfl rfl hl.1 rfl (lv_room (Nat.le_of_ble_eq_true rfl)) dX3_comes_6 ⟨Nat.le_of_ble_eq_true rfl, Nat.le_of_ble_eq_true rfl⟩) hE.2.2.2 (fun q _ h => mE_A hE q h) (mE_A hE) (fun r uq tq H locs ht hvm hw hB hz1 hk1 hS => ?_)
  obtain ⟨rfl, rfl⟩ := hw
  have hE : mE G (mA ad (Sy cy ad cn ck v o) s.heap.size) s.heap ad (Sy cy ad cn ck kv1 o) H locs := mE_call hE hB ht hS
  refine lv_if_ne (tgt := 18) hx hb dX3_comes_9 (by decide) (fun c6 => ?_) (fun c6 => ?_)
  · skip
    have c6 : ¬ 1 = 0 := fun h9 => c6 ((mz_eq (by omega)).mpr h9)
    refine lv_iload_n hx hb dX3_comes_18 rfl (lv_at hl 2 rfl) ?_
    refine lv_iconst (v := nI 0) hx hb dX3_comes_19 (by decide) ?_
    refine lv_sipush (v := nI 9999) hx hb dX3_comes_20 (by decide) ?_
    refine va_calli (va_runS (As := [.int (nI t9), .int (nI 0), .int (nI 9999)]) (rest := []) ⟨hx, hb, hml, hown, hts⟩ (c_X3_isIn l G cy ad (Sy cy ad cn ck kv1 o) _ t9 0 9999 (by omega) (by omega) (by omega)) (va_cwS 3 hts gX3_comes_X3_isIn rfl rfl rfl (by decide +kernel) ⟨Nat.le_of_ble_eq_true rfl, Nat.le_of_ble_eq_true rfl⟩) (mP_S hN hE) rfl rfl hl.1 rfl (lv_room (Nat.le_of_ble_eq_true rfl)) dX3_comes_23 ⟨Nat.le_of_ble_eq_true rfl, Nat.le_of_ble_eq_true rfl⟩) hE.2.2.2 (fun q _ h => mE_A hE q h) (mE_A hE) (fun r uq tq H locs ht hvm hw hB hz1 hk1 hS => ?_)
    obtain ⟨rfl, rfl⟩ := hw
    have hE : mE G (mA ad (Sy cy ad cn ck v o) s.heap.size) s.heap ad (Sy cy ad cn ck kv1 o) H locs := mE_call hE hB ht hS
    refine lv_if_eq (tgt := 76) hx hb dX3_comes_26 (by decide) (fun c7 => ?_) (fun c7 => ?_)
    · skip
      have c7 := (mz_eq (by omega)).mp c7
      exfalso; omega
    · skip
      have c7 : ¬ 1 = 0 := fun h9 => c7 ((mz_eq (by omega)).mpr h9)
      refine lv_iload_n hx hb dX3_comes_29 rfl (lv_at hl 3 rfl) ?_
      refine lv_iconst (v := nI 0) hx hb dX3_comes_30 (by decide) ?_
      refine lv_sipush (v := nI 996) hx hb dX3_comes_31 (by decide) ?_
      refine va_calli (va_runS (As := [.int (nI a1), .int (nI 0), .int (nI 996)]) (rest := []) ⟨hx, hb, hml, hown, hts⟩ (c_X3_isIn l G cy ad (Sy cy ad cn ck kv1 o) _ a1 0 996 (by omega) (by omega) (by omega)) (va_cwS 3 hts gX3_comes_X3_isIn rfl rfl rfl (by decide +kernel) ⟨Nat.le_of_ble_eq_true rfl, Nat.le_of_ble_eq_true rfl⟩) (mP_S hN hE) rfl rfl hl.1 rfl (lv_room (Nat.le_of_ble_eq_true rfl)) dX3_comes_34 ⟨Nat.le_of_ble_eq_true rfl, Nat.le_of_ble_eq_true rfl⟩) hE.2.2.2 (fun q _ h => mE_A hE q h) (mE_A hE) (fun r uq tq H locs ht hvm hw hB hz1 hk1 hS => ?_)
      obtain ⟨rfl, rfl⟩ := hw
      have hE : mE G (mA ad (Sy cy ad cn ck v o) s.heap.size) s.heap ad (Sy cy ad cn ck kv1 o) H locs := mE_call hE hB ht hS
      refine lv_if_eq (tgt := 76) hx hb dX3_comes_37 (by decide) (fun c8 => ?_) (fun c8 => ?_)
      · skip
        have c8 := (mz_eq (by omega)).mp c8
        exfalso; omega
      · skip
        have c8 : ¬ 1 = 0 := fun h9 => c8 ((mz_eq (by omega)).mpr h9)
        refine lv_iload hx hb dX3_comes_40 (lv_at hl 4 rfl) ?_
        refine lv_iconst (v := nI 0) hx hb dX3_comes_42 (by decide) ?_
        refine lv_sipush (v := nI 996) hx hb dX3_comes_43 (by decide) ?_
        refine va_calli (va_runS (As := [.int (nI a2), .int (nI 0), .int (nI 996)]) (rest := []) ⟨hx, hb, hml, hown, hts⟩ (c_X3_isIn l G cy ad (Sy cy ad cn ck kv1 o) _ a2 0 996 (by omega) (by omega) (by omega)) (va_cwS 3 hts gX3_comes_X3_isIn rfl rfl rfl (by decide +kernel) ⟨Nat.le_of_ble_eq_true rfl, Nat.le_of_ble_eq_true rfl⟩) (mP_S hN hE) rfl rfl hl.1 rfl (lv_room (Nat.le_of_ble_eq_true rfl)) dX3_comes_46 ⟨Nat.le_of_ble_eq_true rfl, Nat.le_of_ble_eq_true rfl⟩) hE.2.2.2 (fun q _ h => mE_A hE q h) (mE_A hE) (fun r uq tq H locs ht hvm hw hB hz1 hk1 hS => ?_)
        obtain ⟨rfl, rfl⟩ := hw
        have hE : mE G (mA ad (Sy cy ad cn ck v o) s.heap.size) s.heap ad (Sy cy ad cn ck kv1 o) H locs := mE_call hE hB ht hS
        refine lv_if_eq (tgt := 76) hx hb dX3_comes_49 (by decide) (fun c9 => ?_) (fun c9 => ?_)
        · skip
          have c9 := (mz_eq (by omega)).mp c9
          exfalso; omega
        · skip
          have c9 : ¬ 1 = 0 := fun h9 => c9 ((mz_eq (by omega)).mpr h9)
          refine lv_iload hx hb dX3_comes_52 (lv_at hl 5 rfl) ?_
          refine lv_iconst (v := nI 0) hx hb dX3_comes_54 (by decide) ?_
          refine lv_sipush (v := nI 996) hx hb dX3_comes_55 (by decide) ?_
          refine va_calli (va_runS (As := [.int (nI a3), .int (nI 0), .int (nI 996)]) (rest := []) ⟨hx, hb, hml, hown, hts⟩ (c_X3_isIn l G cy ad (Sy cy ad cn ck kv1 o) _ a3 0 996 (by omega) (by omega) (by omega)) (va_cwS 3 hts gX3_comes_X3_isIn rfl rfl rfl (by decide +kernel) ⟨Nat.le_of_ble_eq_true rfl, Nat.le_of_ble_eq_true rfl⟩) (mP_S hN hE) rfl rfl hl.1 rfl (lv_room (Nat.le_of_ble_eq_true rfl)) dX3_comes_58 ⟨Nat.le_of_ble_eq_true rfl, Nat.le_of_ble_eq_true rfl⟩) hE.2.2.2 (fun q _ h => mE_A hE q h) (mE_A hE) (fun r uq tq H locs ht hvm hw hB hz1 hk1 hS => ?_)
          obtain ⟨rfl, rfl⟩ := hw
          have hE : mE G (mA ad (Sy cy ad cn ck v o) s.heap.size) s.heap ad (Sy cy ad cn ck kv1 o) H locs := mE_call hE hB ht hS
          refine lv_if_eq (tgt := 76) hx hb dX3_comes_61 (by decide) (fun c10 => ?_) (fun c10 => ?_)
          · skip
            have c10 := (mz_eq (by omega)).mp c10
            exfalso; omega
          · skip
            have c10 : ¬ 1 = 0 := fun h9 => c10 ((mz_eq (by omega)).mpr h9)
            refine lv_iload hx hb dX3_comes_64 (lv_at hl 6 rfl) ?_
            refine lv_iconst (v := nI 0) hx hb dX3_comes_66 (by decide) ?_
            refine lv_sipush (v := nI 996) hx hb dX3_comes_67 (by decide) ?_
            refine va_calli (va_runS (As := [.int x, .int (nI 0), .int (nI 996)]) (rest := []) ⟨hx, hb, hml, hown, hts⟩ (x_X3_isIn l G cy ad (Sy cy ad cn ck kv1 o) _ x (nI 0) (nI 996) (mi_bad hbad rfl (by decide))) (va_cwS 3 hts gX3_comes_X3_isIn rfl rfl rfl (by decide +kernel) ⟨Nat.le_of_ble_eq_true rfl, Nat.le_of_ble_eq_true rfl⟩) (mP_S hN hE) rfl rfl hl.1 rfl (lv_room (Nat.le_of_ble_eq_true rfl)) dX3_comes_70 ⟨Nat.le_of_ble_eq_true rfl, Nat.le_of_ble_eq_true rfl⟩) hE.2.2.2 (fun q _ h => mE_A hE q h) (mE_A hE) (fun r uq tq H locs ht hvm hw hB hz1 hk1 hS => ?_)
            obtain ⟨rfl, rfl⟩ := hw
            have hE : mE G (mA ad (Sy cy ad cn ck v o) s.heap.size) s.heap ad (Sy cy ad cn ck kv1 o) H locs := mE_call hE hB ht hS
            refine lv_if_ne (tgt := 82) hx hb dX3_comes_73 (by decide) (fun c11 => ?_) (fun c11 => ?_)
            · skip
              have c11 : ¬ 0 = 0 := fun h9 => c11 ((mz_eq (by omega)).mpr h9)
              exfalso; omega
            · skip
              have c11 := (mz_eq (by omega)).mp c11
              refine lv_aload_n hx hb dX3_comes_76 rfl (lv_at hl 0 rfl) ?_
              refine lv_iconst (v := nI 2) hx hb dX3_comes_77 (by decide) ?_
              refine va_calli (va_runV (As := [.int (nI 2)]) (rest := []) ⟨hx, hb, hml, hown, hts⟩ (c_X3_fail l G cy ad cn ck n k kv1 o hn hk _ kf3 kf4 (nI 2)) (cwV 1 hts gX3_comes_X3_fail rfl rfl rfl (by decide +kernel) ⟨Nat.le_of_ble_eq_true rfl, Nat.le_of_ble_eq_true rfl⟩) (mP_V (r := (RX3, TX3, 11)) hN hE (S_4f kf2 kf3 kf4 kf5) rfl) rfl rfl hl.1 rfl (lv_room (Nat.le_of_ble_eq_true rfl)) dX3_comes_78 ⟨Nat.le_of_ble_eq_true rfl, Nat.le_of_ble_eq_true rfl⟩) hE.2.2.2 (fun q _ h => mE_A hE q h) (mE_A hE) (fun r uq tq H locs ht hvm hw hB hz1 hk1 hS => ?_)
              obtain ⟨rfl, kv12, rfl, kq13⟩ := hw
              have hE : mE G (mA ad (Sy cy ad cn ck v o) s.heap.size) s.heap ad (Sy cy ad cn ck kv12 o) H locs := mE_call hE hB ht hS
              have kf14 : kv12 4 0 = nI 2 := kq13.2.1
              have kf15 : kv12 4 1 = nI n := (kq13.2.2.1).trans kf3
              have kf16 : kv12 4 2 = nI k := (kq13.2.2.2).trans kf4
              exact mx_iret hx hb hr hE hlocks ⟨rfl, ⟨kv12, rfl, fun w h4 h10 h11 => ((kq13.1 w h4 h10 h11).trans (show kv1 w = v w by rw [hkv1, va_up_n _ _ h4])), kf14, (kf15.trans hm1.symm), (kf16.trans hm2.symm)⟩⟩ dX3_comes_81
  · skip
    have c6 := (mz_eq (by omega)).mp c6
    exfalso; omega

set_option maxHeartbeats 4000000 in
set_option maxRecDepth 100000 in
/-- proves -/
theorem c_X3_proves (l : Launch) (G : va_G) (cy : Nat → ClassId) (ad : Nat → Nat) (cn ck n k : Nat) (v : Nat → Nat → Int32) (o : Nat → Int64) (hn : n ≤ 6) (hk : k ≤ 20) (sz : Nat) (hm1 : v 4 1 = nI n) (hm2 : v 4 2 = nI k) (j : Nat) (h_j : j < k) (d t9 cu : Nat) (hd : d < 16) (ht9 : t9 < 10000) (h_cu : cu < n) {f5 : Nat → Int32} (h5 : v 5 = f5) {f7 : Nat → Int32} (h7 : v 7 = f7) {f8 : Nat → Int32} (h8 : v 8 = f8) (hsc : f7 j = nI cu) : mMi l yX3_proves wsX3_proves ({ frames := 10, cells := 0, slots := 0, locals := 220 }) G cy ad (Sy cy ad cn ck v o) sz [.ref (ad 4), .int (nI j), .int (nI d), .int (nI t9)] 0 0 (fun (r : Int32) u => r = mb (mComes d (nI t9) (mS (fun d => f5 (16 * cu + d)) (mBes d 0)) (mS (fun d => f5 (16 * cu + d)) (mBes d 1)) (mS (fun d => f5 (16 * cu + d)) (mBes d 2)) (mS (fun d => f5 (16 * cu + d)) (mBes d 3)) = f8 j) ∧ ∃ v' : Nat → Nat → Int32, u = (ad, Sy cy ad cn ck v' o) ∧ mQT v v' (nI 0)) := by
  refine Met.ofW (cc := cX3_proves) (maxL := 4) (ret := (some .boolean)) (by decide) rfl ?_
  intro p e s m args below meth c s₁ B hml hv
  obtain ⟨rfl, hv⟩ := hv
  have hsz := hv.1
  subst hsz
  have hN := hv.2.2
  have hE := mP_E hv
  have hx := B.exec
  have hb := B.bytes
  have hr := B.returns
  have hts := atoms_spec (ws := wsX3_proves) B.pre
  have hown : s.vm.findClass RX3 = some m.cls := findClass_of_methodNamed B.named
  have hlocks := B.notSynchronized
  have hiX3 : ∀ w ∈ wsX30, w ∈ wsX3_proves := by decide +kernel
  have hl := lv_entry ([.ref (ad 4), .int (nI j), .int (nI d), .int (nI t9)]) (n := 4) (Nat.le_of_ble_eq_true rfl)
  rw [lg_entry_eq]
  generalize (lg_sl ([.ref (ad 4), .int (nI j), .int (nI d), .int (nI t9)]) ++ List.replicate (4 - (lg_sl ([.ref (ad 4), .int (nI j), .int (nI d), .int (nI t9)])).length) Slot.unset).toArray = ls at hl ⊢
  have hl : lv_has ls 4 [(0, .ref (ad 4)), (1, .int (nI j)), (2, .int (nI d)), (3, .int (nI t9))] := hl
  refine lv_aload_n hx hb dX3_proves_0 rfl (lv_at hl 0 rfl) ?_
  refine lv_aload_n hx hb dX3_proves_1 rfl (lv_at hl 0 rfl) ?_
  refine lv_iload_n hx hb dX3_proves_2 rfl (lv_at hl 1 rfl) ?_
  refine va_calli (va_runV (As := [.int (nI j)]) (rest := [.ref (ad 4)]) ⟨hx, hb, hml, hown, hts⟩ (c_X3_isSeal l G cy ad cn ck n k v o hn hk _ hm1 hm2 j h_j) (cwV 1 hts gX3_proves_X3_isSeal rfl rfl rfl (by decide +kernel) ⟨Nat.le_of_ble_eq_true rfl, Nat.le_of_ble_eq_true rfl⟩) (mP_V (r := (RX3, TX3, 11)) hN hE (S_4f rfl hm1 hm2 rfl) rfl) rfl rfl hl.1 rfl (lv_room (Nat.le_of_ble_eq_true rfl)) dX3_proves_3 ⟨Nat.le_of_ble_eq_true rfl, Nat.le_of_ble_eq_true rfl⟩) hE.2.2.2 (fun q _ h => mE_A hE q h) (mE_A hE) (fun r uq tq H locs ht hvm hw hB hz1 hk1 hS => ?_)
  obtain ⟨rfl, rfl⟩ := hw
  have hE : mE G (mA ad (Sy cy ad cn ck v o) s.heap.size) s.heap ad (Sy cy ad cn ck v o) H locs := mE_call hE hB ht hS
  refine lv_if_eq (tgt := 16) hx hb dX3_proves_6 (by decide) (fun c1 => ?_) (fun c1 => ?_)
  · skip
    have c1 := (mz_eq (by omega)).mp c1
    exfalso; omega
  · skip
    have c1 : ¬ 1 = 0 := fun h9 => c1 ((mz_eq (by omega)).mpr h9)
    refine lv_iload_n hx hb dX3_proves_9 rfl (lv_at hl 2 rfl) ?_
    refine va_calli (va_runS (As := [.int (nI d)]) (rest := [.ref (ad 4)]) ⟨hx, hb, hml, hown, hts⟩ (c_X3_isDrawer l G cy ad (Sy cy ad cn ck v o) _ d (by omega)) (va_cwS 1 hts gX3_proves_X3_isDrawer rfl rfl rfl (by decide +kernel) ⟨Nat.le_of_ble_eq_true rfl, Nat.le_of_ble_eq_true rfl⟩) (mP_S hN hE) rfl rfl hl.1 rfl (lv_room (Nat.le_of_ble_eq_true rfl)) dX3_proves_10 ⟨Nat.le_of_ble_eq_true rfl, Nat.le_of_ble_eq_true rfl⟩) hE.2.2.2 (fun q _ h => mE_A hE q h) (mE_A hE) (fun r uq tq H locs ht hvm hw hB hz1 hk1 hS => ?_)
    obtain ⟨rfl, rfl⟩ := hw
    have hE : mE G (mA ad (Sy cy ad cn ck v o) s.heap.size) s.heap ad (Sy cy ad cn ck v o) H locs := mE_call hE hB ht hS
    refine lv_if_ne (tgt := 20) hx hb dX3_proves_13 (by decide) (fun c2 => ?_) (fun c2 => ?_)
    · skip
      have c2 : ¬ 1 = 0 := fun h9 => c2 ((mz_eq (by omega)).mpr h9)
      refine lv_iload_n hx hb dX3_proves_20 rfl (lv_at hl 3 rfl) ?_
      refine lv_iconst (v := nI 0) hx hb dX3_proves_21 (by decide) ?_
      refine lv_sipush (v := nI 9999) hx hb dX3_proves_22 (by decide) ?_
      refine va_calli (va_runS (As := [.int (nI t9), .int (nI 0), .int (nI 9999)]) (rest := [.ref (ad 4)]) ⟨hx, hb, hml, hown, hts⟩ (c_X3_isIn l G cy ad (Sy cy ad cn ck v o) _ t9 0 9999 (by omega) (by omega) (by omega)) (va_cwS 3 hts gX3_proves_X3_isIn rfl rfl rfl (by decide +kernel) ⟨Nat.le_of_ble_eq_true rfl, Nat.le_of_ble_eq_true rfl⟩) (mP_S hN hE) rfl rfl hl.1 rfl (lv_room (Nat.le_of_ble_eq_true rfl)) dX3_proves_25 ⟨Nat.le_of_ble_eq_true rfl, Nat.le_of_ble_eq_true rfl⟩) hE.2.2.2 (fun q _ h => mE_A hE q h) (mE_A hE) (fun r uq tq H locs ht hvm hw hB hz1 hk1 hS => ?_)
      obtain ⟨rfl, rfl⟩ := hw
      have hE : mE G (mA ad (Sy cy ad cn ck v o) s.heap.size) s.heap ad (Sy cy ad cn ck v o) H locs := mE_call hE hB ht hS
      refine lv_if_ne (tgt := 35) hx hb dX3_proves_28 (by decide) (fun c3 => ?_) (fun c3 => ?_)
      · skip
        have c3 : ¬ 1 = 0 := fun h9 => c3 ((mz_eq (by omega)).mpr h9)
        refine lv_iconst (v := nI 0) hx hb dX3_proves_35 (by decide) ?_
        refine mx_put (ci := 3) (v := .int (nI 0)) (ty := .int) (C := RX3) (T := TX3) (N := 11) hx hb hts hiX3 tyX3 tyX3_ok nmX3 hown hN hE (S_4f rfl hm1 hm2 rfl) rfl 0 (by decide) (hts (.fieldLink RX3 31 "SealedCupboardsModel" "thrown" "I") (by decide +kernel)) (fun _ h9 => h9) rfl (by decide +kernel) rfl rfl (Nat.le_of_ble_eq_true rfl) dX3_proves_36 (fun H locs hE => ?_)
        obtain ⟨kv4, hkv4⟩ : ∃ y99, y99 = va_up v 4 (upd (v 4) 0 (nI 0)) := ⟨_, rfl⟩
        have hE : mE G (mA ad (Sy cy ad cn ck v o) s.heap.size) s.heap ad (Sy cy ad cn ck kv4 o) H locs := by rw [hkv4]; exact (S_4u (upd_s _ _ _) ((upd_n _ _ (by decide)).trans hm1) ((upd_n _ _ (by decide)).trans hm2) ((upd_n _ _ (by decide)).trans rfl)) ▸ hE
        have kf5 : kv4 4 0 = nI 0 := by rw [hkv4, va_up_s, upd_s]
        have kf6 : kv4 4 1 = nI n := by rw [hkv4, va_up_s, upd_n _ _ (by decide)]; exact hm1
        have kf7 : kv4 4 2 = nI k := by rw [hkv4, va_up_s, upd_n _ _ (by decide)]; exact hm2
        have kf8 : kv4 4 10 = v 4 10 := by rw [hkv4, va_up_s, upd_n _ _ (by decide)]
        have ke9 : kv4 5 = f5 := by rw [hkv4, va_up_n _ _ (by omega)]; exact h5
        have ke10 : kv4 7 = f7 := by rw [hkv4, va_up_n _ _ (by omega)]; exact h7
        have ke11 : kv4 8 = f8 := by rw [hkv4, va_up_n _ _ (by omega)]; exact h8
        refine lv_aload_n hx hb dX3_proves_39 rfl (lv_at hl 0 rfl) ?_
        refine va_get (D := G) (ci := 3) (v := .int (nI 0)) (C := RX3) (T := TX3) (N := 11) hx hb hts hiX3 hown hN.1 (mE_P1 hE (S_4f kf5 kf6 kf7 kf8)) 0 rfl rfl 0 (by decide) (hts (.fieldLink RX3 31 "SealedCupboardsModel" "thrown" "I") (by decide +kernel)) (fun _ h9 => h9) rfl dX3_proves_40 ?_
        refine lv_if_eq (tgt := 48) hx hb dX3_proves_43 (by decide) (fun c12 => ?_) (fun c12 => ?_)
        · skip
          have c12 := (mz_eq (by omega)).mp c12
          refine lv_aload_n hx hb dX3_proves_48 rfl (lv_at hl 0 rfl) ?_
          refine lv_aload_n hx hb dX3_proves_49 rfl (lv_at hl 0 rfl) ?_
          refine va_get (D := G) (ci := 3) (v := .ref (ad 7)) (C := RX3) (T := TX3) (N := 11) hx hb hts hiX3 hown hN.1 (mE_P1 hE (S_4f kf5 kf6 kf7 kf8)) 0 rfl rfl 5 (by decide) (hts (.fieldLink RX3 16 "SealedCupboardsModel" "sealed" "[I") (by decide +kernel)) (fun _ h9 => h9) rfl dX3_proves_50 ?_
          refine lv_iload_n hx hb dX3_proves_53 rfl (lv_at hl 1 rfl) ?_
          refine mx_iald hx hb hN hE (S_7e ke10) (j := j) rfl (by omega) (by decide) dX3_proves_54 ?_
          rw [hsc]
          refine lv_aload_n hx hb dX3_proves_55 rfl (lv_at hl 0 rfl) ?_
          refine va_get (D := G) (ci := 3) (v := .ref (ad 10)) (C := RX3) (T := TX3) (N := 11) hx hb hts hiX3 hown hN.1 (mE_P1 hE (S_4f kf5 kf6 kf7 kf8)) 0 rfl rfl 8 (by decide) (hts (.fieldLink RX3 25 "SealedCupboardsModel" "sums" "[I") (by decide +kernel)) (fun _ h9 => h9) rfl dX3_proves_56 ?_
          refine va_callv (va_runV (As := [.int (nI cu), .ref (ad 10)]) (rest := []) ⟨hx, hb, hml, hown, hts⟩ (c_X3_reckon l G cy ad cn ck n k kv4 o hn hk _ kf6 kf7 cu 10 h_cu (fun g => sy_10) (by decide) (by decide) ke9) (cwV 2 hts gX3_proves_X3_reckon rfl rfl rfl (by decide +kernel) ⟨Nat.le_of_ble_eq_true rfl, Nat.le_of_ble_eq_true rfl⟩) (mP_V (r := (RX3, TX3, 11)) hN hE (S_4f kf5 kf6 kf7 kf8) rfl) rfl rfl hl.1 rfl (lv_room (Nat.le_of_ble_eq_true rfl)) dX3_proves_59 ⟨Nat.le_of_ble_eq_true rfl, Nat.le_of_ble_eq_true rfl⟩) hE.2.2.2 (fun q _ h => mE_A hE q h) (mE_A hE) (fun uq tq H locs ht hvm hw hB hz1 hk1 hS => ?_)
          obtain ⟨kg13, rfl, kq14⟩ := hw
          have hE : mE G (mA ad (Sy cy ad cn ck v o) s.heap.size) s.heap ad (Sy cy ad cn ck (va_up kv4 10 kg13) o) H locs := mE_call hE hB ht hS
          obtain ⟨kv15, hkv15⟩ : ∃ y99, y99 = va_up kv4 10 kg13 := ⟨_, rfl⟩
          have hE : mE G (mA ad (Sy cy ad cn ck v o) s.heap.size) s.heap ad (Sy cy ad cn ck kv15 o) H locs := by rw [hkv15]; exact hE
          have ke16 : kv15 5 = f5 := by rw [hkv15, va_up_n _ _ (by omega)]; exact ke9
          have ke17 : kv15 7 = f7 := by rw [hkv15, va_up_n _ _ (by omega)]; exact ke10
          have ke18 : kv15 8 = f8 := by rw [hkv15, va_up_n _ _ (by omega)]; exact ke11
          have ke19 : kv15 10 = kg13 := by rw [hkv15, va_up_s]
          have kf20 : kv15 4 0 = nI 0 := by rw [hkv15, va_up_n _ _ (by omega)]; exact kf5
          have kf21 : kv15 4 1 = nI n := by rw [hkv15, va_up_n _ _ (by omega)]; exact kf6
          have kf22 : kv15 4 2 = nI k := by rw [hkv15, va_up_n _ _ (by omega)]; exact kf7
          have kf23 : kv15 4 10 = v 4 10 := by rw [hkv15, va_up_n _ _ (by omega)]; exact kf8
          refine lv_iload_n hx hb dX3_proves_62 rfl (lv_at hl 2 rfl) ?_
          refine lv_iload_n hx hb dX3_proves_63 rfl (lv_at hl 3 rfl) ?_
          refine lv_aload_n hx hb dX3_proves_64 rfl (lv_at hl 0 rfl) ?_
          refine va_get (D := G) (ci := 3) (v := .ref (ad 10)) (C := RX3) (T := TX3) (N := 11) hx hb hts hiX3 hown hN.1 (mE_P1 hE (S_4f kf20 kf21 kf22 kf23)) 0 rfl rfl 8 (by decide) (hts (.fieldLink RX3 25 "SealedCupboardsModel" "sums" "[I") (by decide +kernel)) (fun _ h9 => h9) rfl dX3_proves_65 ?_
          refine lv_iload_n hx hb dX3_proves_68 rfl (lv_at hl 2 rfl) ?_
          refine lv_iconst (v := nI 0) hx hb dX3_proves_69 (by decide) ?_
          refine va_calli (va_runS (As := [.int (nI d), .int (nI 0)]) (rest := [.ref (ad 10), .int (nI t9), .int (nI d)]) ⟨hx, hb, hml, hown, hts⟩ (c_X3_beside l G cy ad (Sy cy ad cn ck kv15 o) _ d 0 (by omega) (by omega)) (va_cwS 2 hts gX3_proves_X3_beside rfl rfl rfl (by decide +kernel) ⟨Nat.le_of_ble_eq_true rfl, Nat.le_of_ble_eq_true rfl⟩) (mP_S hN hE) rfl rfl hl.1 rfl (lv_room (Nat.le_of_ble_eq_true rfl)) dX3_proves_70 ⟨Nat.le_of_ble_eq_true rfl, Nat.le_of_ble_eq_true rfl⟩) hE.2.2.2 (fun q _ h => mE_A hE q h) (mE_A hE) (fun r uq tq H locs ht hvm hw hB hz1 hk1 hS => ?_)
          obtain ⟨rfl, rfl⟩ := hw
          have hE : mE G (mA ad (Sy cy ad cn ck v o) s.heap.size) s.heap ad (Sy cy ad cn ck kv15 o) H locs := mE_call hE hB ht hS
          refine mx_iald hx hb hN hE (S_10e ke19) (j := mBes d 0) rfl (mBes_lt d hd 0 (by decide)) (by decide) dX3_proves_73 ?_
          refine lv_aload_n hx hb dX3_proves_74 rfl (lv_at hl 0 rfl) ?_
          refine va_get (D := G) (ci := 3) (v := .ref (ad 10)) (C := RX3) (T := TX3) (N := 11) hx hb hts hiX3 hown hN.1 (mE_P1 hE (S_4f kf20 kf21 kf22 kf23)) 0 rfl rfl 8 (by decide) (hts (.fieldLink RX3 25 "SealedCupboardsModel" "sums" "[I") (by decide +kernel)) (fun _ h9 => h9) rfl dX3_proves_75 ?_
          refine lv_iload_n hx hb dX3_proves_78 rfl (lv_at hl 2 rfl) ?_
          refine lv_iconst (v := nI 1) hx hb dX3_proves_79 (by decide) ?_
          refine va_calli (va_runS (As := [.int (nI d), .int (nI 1)]) (rest := [.ref (ad 10), .int (kg13 (mBes d 0)), .int (nI t9), .int (nI d)]) ⟨hx, hb, hml, hown, hts⟩ (c_X3_beside l G cy ad (Sy cy ad cn ck kv15 o) _ d 1 (by omega) (by omega)) (va_cwS 2 hts gX3_proves_X3_beside rfl rfl rfl (by decide +kernel) ⟨Nat.le_of_ble_eq_true rfl, Nat.le_of_ble_eq_true rfl⟩) (mP_S hN hE) rfl rfl hl.1 rfl (lv_room (Nat.le_of_ble_eq_true rfl)) dX3_proves_80 ⟨Nat.le_of_ble_eq_true rfl, Nat.le_of_ble_eq_true rfl⟩) hE.2.2.2 (fun q _ h => mE_A hE q h) (mE_A hE) (fun r uq tq H locs ht hvm hw hB hz1 hk1 hS => ?_)
          obtain ⟨rfl, rfl⟩ := hw
          have hE : mE G (mA ad (Sy cy ad cn ck v o) s.heap.size) s.heap ad (Sy cy ad cn ck kv15 o) H locs := mE_call hE hB ht hS
          refine mx_iald hx hb hN hE (S_10e ke19) (j := mBes d 1) rfl (mBes_lt d hd 1 (by decide)) (by decide) dX3_proves_83 ?_
          refine lv_aload_n hx hb dX3_proves_84 rfl (lv_at hl 0 rfl) ?_
          refine va_get (D := G) (ci := 3) (v := .ref (ad 10)) (C := RX3) (T := TX3) (N := 11) hx hb hts hiX3 hown hN.1 (mE_P1 hE (S_4f kf20 kf21 kf22 kf23)) 0 rfl rfl 8 (by decide) (hts (.fieldLink RX3 25 "SealedCupboardsModel" "sums" "[I") (by decide +kernel)) (fun _ h9 => h9) rfl dX3_proves_85 ?_
          refine lv_iload_n hx hb dX3_proves_88 rfl (lv_at hl 2 rfl) ?_
          refine lv_iconst (v := nI 2) hx hb dX3_proves_89 (by decide) ?_
          refine va_calli (va_runS (As := [.int (nI d), .int (nI 2)]) (rest := [.ref (ad 10), .int (kg13 (mBes d 1)), .int (kg13 (mBes d 0)), .int (nI t9), .int (nI d)]) ⟨hx, hb, hml, hown, hts⟩ (c_X3_beside l G cy ad (Sy cy ad cn ck kv15 o) _ d 2 (by omega) (by omega)) (va_cwS 2 hts gX3_proves_X3_beside rfl rfl rfl (by decide +kernel) ⟨Nat.le_of_ble_eq_true rfl, Nat.le_of_ble_eq_true rfl⟩) (mP_S hN hE) rfl rfl hl.1 rfl (lv_room (Nat.le_of_ble_eq_true rfl)) dX3_proves_90 ⟨Nat.le_of_ble_eq_true rfl, Nat.le_of_ble_eq_true rfl⟩) hE.2.2.2 (fun q _ h => mE_A hE q h) (mE_A hE) (fun r uq tq H locs ht hvm hw hB hz1 hk1 hS => ?_)
          obtain ⟨rfl, rfl⟩ := hw
          have hE : mE G (mA ad (Sy cy ad cn ck v o) s.heap.size) s.heap ad (Sy cy ad cn ck kv15 o) H locs := mE_call hE hB ht hS
          refine mx_iald hx hb hN hE (S_10e ke19) (j := mBes d 2) rfl (mBes_lt d hd 2 (by decide)) (by decide) dX3_proves_93 ?_
          refine lv_aload_n hx hb dX3_proves_94 rfl (lv_at hl 0 rfl) ?_
          refine va_get (D := G) (ci := 3) (v := .ref (ad 10)) (C := RX3) (T := TX3) (N := 11) hx hb hts hiX3 hown hN.1 (mE_P1 hE (S_4f kf20 kf21 kf22 kf23)) 0 rfl rfl 8 (by decide) (hts (.fieldLink RX3 25 "SealedCupboardsModel" "sums" "[I") (by decide +kernel)) (fun _ h9 => h9) rfl dX3_proves_95 ?_
          refine lv_iload_n hx hb dX3_proves_98 rfl (lv_at hl 2 rfl) ?_
          refine lv_iconst (v := nI 3) hx hb dX3_proves_99 (by decide) ?_
          refine va_calli (va_runS (As := [.int (nI d), .int (nI 3)]) (rest := [.ref (ad 10), .int (kg13 (mBes d 2)), .int (kg13 (mBes d 1)), .int (kg13 (mBes d 0)), .int (nI t9), .int (nI d)]) ⟨hx, hb, hml, hown, hts⟩ (c_X3_beside l G cy ad (Sy cy ad cn ck kv15 o) _ d 3 (by omega) (by omega)) (va_cwS 2 hts gX3_proves_X3_beside rfl rfl rfl (by decide +kernel) ⟨Nat.le_of_ble_eq_true rfl, Nat.le_of_ble_eq_true rfl⟩) (mP_S hN hE) rfl rfl hl.1 rfl (lv_room (Nat.le_of_ble_eq_true rfl)) dX3_proves_100 ⟨Nat.le_of_ble_eq_true rfl, Nat.le_of_ble_eq_true rfl⟩) hE.2.2.2 (fun q _ h => mE_A hE q h) (mE_A hE) (fun r uq tq H locs ht hvm hw hB hz1 hk1 hS => ?_)
          obtain ⟨rfl, rfl⟩ := hw
          have hE : mE G (mA ad (Sy cy ad cn ck v o) s.heap.size) s.heap ad (Sy cy ad cn ck kv15 o) H locs := mE_call hE hB ht hS
          refine mx_iald hx hb hN hE (S_10e ke19) (j := mBes d 3) rfl (mBes_lt d hd 3 (by decide)) (by decide) dX3_proves_103 ?_
          refine va_calli (va_runS (As := [.int (nI d), .int (nI t9), .int (kg13 (mBes d 0)), .int (kg13 (mBes d 1)), .int (kg13 (mBes d 2)), .int (kg13 (mBes d 3))]) (rest := []) ⟨hx, hb, hml, hown, hts⟩ (c_X3_way l G cy ad (Sy cy ad cn ck kv15 o) _ d (nI t9) (kg13 (mBes d 0)) (kg13 (mBes d 1)) (kg13 (mBes d 2)) (kg13 (mBes d 3)) (by omega)) (va_cwS 6 hts gX3_proves_X3_way rfl rfl rfl (by decide +kernel) ⟨Nat.le_of_ble_eq_true rfl, Nat.le_of_ble_eq_true rfl⟩) (mP_S hN hE) rfl rfl hl.1 rfl (lv_room (Nat.le_of_ble_eq_true rfl)) dX3_proves_104 ⟨Nat.le_of_ble_eq_true rfl, Nat.le_of_ble_eq_true rfl⟩) hE.2.2.2 (fun q _ h => mE_A hE q h) (mE_A hE) (fun r uq tq H locs ht hvm hw hB hz1 hk1 hS => ?_)
          obtain ⟨rfl, rfl⟩ := hw
          have hE : mE G (mA ad (Sy cy ad cn ck v o) s.heap.size) s.heap ad (Sy cy ad cn ck kv15 o) H locs := mE_call hE hB ht hS
          refine lv_aload_n hx hb dX3_proves_107 rfl (lv_at hl 0 rfl) ?_
          refine va_get (D := G) (ci := 3) (v := .ref (ad 8)) (C := RX3) (T := TX3) (N := 11) hx hb hts hiX3 hown hN.1 (mE_P1 hE (S_4f kf20 kf21 kf22 kf23)) 0 rfl rfl 6 (by decide) (hts (.fieldLink RX3 19 "SealedCupboardsModel" "roots" "[I") (by decide +kernel)) (fun _ h9 => h9) rfl dX3_proves_108 ?_
          refine lv_iload_n hx hb dX3_proves_111 rfl (lv_at hl 1 rfl) ?_
          refine mx_iald hx hb hN hE (S_8e ke18) (j := j) rfl (by omega) (by decide) dX3_proves_112 ?_
          refine lv_icmp_ne (tgt := 120) hx hb dX3_proves_113 (by decide) (fun c24 => ?_) (fun c24 => ?_)
          · skip
            refine lv_iconst (v := nI 0) hx hb dX3_proves_120 (by decide) ?_
            exact mx_zret hx hb hr rfl hE hlocks ⟨(mb_f (by rw [← mCon_S kq14 (mBes d 0) (mBes_pos d hd 0 (by decide)) (mBes_lt d hd 0 (by decide)), ← mCon_S kq14 (mBes d 1) (mBes_pos d hd 1 (by decide)) (mBes_lt d hd 1 (by decide)), ← mCon_S kq14 (mBes d 2) (mBes_pos d hd 2 (by decide)) (mBes_lt d hd 2 (by decide)), ← mCon_S kq14 (mBes d 3) (mBes_pos d hd 3 (by decide)) (mBes_lt d hd 3 (by decide))]; exact c24)).symm, ⟨kv15, rfl, fun w h4 h10 h11 => ((show kv15 w = kv4 w by rw [hkv15, va_up_n _ _ h10]).trans (show kv4 w = v w by rw [hkv4, va_up_n _ _ h4])), kf20, (kf21.trans hm1.symm), (kf22.trans hm2.symm)⟩⟩ dX3_proves_121
          · skip
            refine lv_iconst (v := nI 1) hx hb dX3_proves_116 (by decide) ?_
            refine lv_goto (tgt := 121) hx hb dX3_proves_117 (by decide) ?_
            exact mx_zret hx hb hr rfl hE hlocks ⟨(mb_t (by rw [← mCon_S kq14 (mBes d 0) (mBes_pos d hd 0 (by decide)) (mBes_lt d hd 0 (by decide)), ← mCon_S kq14 (mBes d 1) (mBes_pos d hd 1 (by decide)) (mBes_lt d hd 1 (by decide)), ← mCon_S kq14 (mBes d 2) (mBes_pos d hd 2 (by decide)) (mBes_lt d hd 2 (by decide)), ← mCon_S kq14 (mBes d 3) (mBes_pos d hd 3 (by decide)) (mBes_lt d hd 3 (by decide))]; exact c24)).symm, ⟨kv15, rfl, fun w h4 h10 h11 => ((show kv15 w = kv4 w by rw [hkv15, va_up_n _ _ h10]).trans (show kv4 w = v w by rw [hkv4, va_up_n _ _ h4])), kf20, (kf21.trans hm1.symm), (kf22.trans hm2.symm)⟩⟩ dX3_proves_121
        · skip
          have c12 : ¬ 0 = 0 := fun h9 => c12 ((mz_eq (by omega)).mpr h9)
          exfalso; omega
      · skip
        have c3 := (mz_eq (by omega)).mp c3
        exfalso; omega
    · skip
      have c2 := (mz_eq (by omega)).mp c2
      exfalso; omega

set_option maxHeartbeats 4000000 in
set_option maxRecDepth 100000 in
/-- proves -/
theorem x_X3_proves1 (l : Launch) (G : va_G) (cy : Nat → ClassId) (ad : Nat → Nat) (cn ck n k : Nat) (v : Nat → Nat → Int32) (o : Nat → Int64) (hn : n ≤ 6) (hk : k ≤ 20) (sz : Nat) (hm1 : v 4 1 = nI n) (hm2 : v 4 2 = nI k) (x : Int32) (hbad : x < 0 ∨ nI k ≤ x) (y z : Int32) : mMi l yX3_proves wsX3_proves ({ frames := 10, cells := 0, slots := 0, locals := 220 }) G cy ad (Sy cy ad cn ck v o) sz [.ref (ad 4), .int x, .int y, .int z] 0 0 (fun (r : Int32) u => r = nI 0 ∧ ∃ v' : Nat → Nat → Int32, u = (ad, Sy cy ad cn ck v' o) ∧ mQT v v' (nI 1)) := by
  refine Met.ofW (cc := cX3_proves) (maxL := 4) (ret := (some .boolean)) (by decide) rfl ?_
  intro p e s m args below meth c s₁ B hml hv
  obtain ⟨rfl, hv⟩ := hv
  have hsz := hv.1
  subst hsz
  have hN := hv.2.2
  have hE := mP_E hv
  have hx := B.exec
  have hb := B.bytes
  have hr := B.returns
  have hts := atoms_spec (ws := wsX3_proves) B.pre
  have hown : s.vm.findClass RX3 = some m.cls := findClass_of_methodNamed B.named
  have hlocks := B.notSynchronized
  have hiX3 : ∀ w ∈ wsX30, w ∈ wsX3_proves := by decide +kernel
  have hl := lv_entry ([.ref (ad 4), .int x, .int y, .int z]) (n := 4) (Nat.le_of_ble_eq_true rfl)
  rw [lg_entry_eq]
  generalize (lg_sl ([.ref (ad 4), .int x, .int y, .int z]) ++ List.replicate (4 - (lg_sl ([.ref (ad 4), .int x, .int y, .int z])).length) Slot.unset).toArray = ls at hl ⊢
  have hl : lv_has ls 4 [(0, .ref (ad 4)), (1, .int x), (2, .int y), (3, .int z)] := hl
  refine lv_aload_n hx hb dX3_proves_0 rfl (lv_at hl 0 rfl) ?_
  refine lv_aload_n hx hb dX3_proves_1 rfl (lv_at hl 0 rfl) ?_
  refine lv_iload_n hx hb dX3_proves_2 rfl (lv_at hl 1 rfl) ?_
  refine va_calli (va_runV (As := [.int x]) (rest := [.ref (ad 4)]) ⟨hx, hb, hml, hown, hts⟩ (x_X3_isSeal l G cy ad cn ck n k v o hn hk _ hm1 hm2 x hbad) (cwV 1 hts gX3_proves_X3_isSeal rfl rfl rfl (by decide +kernel) ⟨Nat.le_of_ble_eq_true rfl, Nat.le_of_ble_eq_true rfl⟩) (mP_V (r := (RX3, TX3, 11)) hN hE (S_4f rfl hm1 hm2 rfl) rfl) rfl rfl hl.1 rfl (lv_room (Nat.le_of_ble_eq_true rfl)) dX3_proves_3 ⟨Nat.le_of_ble_eq_true rfl, Nat.le_of_ble_eq_true rfl⟩) hE.2.2.2 (fun q _ h => mE_A hE q h) (mE_A hE) (fun r uq tq H locs ht hvm hw hB hz1 hk1 hS => ?_)
  obtain ⟨rfl, rfl⟩ := hw
  have hE : mE G (mA ad (Sy cy ad cn ck v o) s.heap.size) s.heap ad (Sy cy ad cn ck v o) H locs := mE_call hE hB ht hS
  refine lv_if_eq (tgt := 16) hx hb dX3_proves_6 (by decide) (fun c1 => ?_) (fun c1 => ?_)
  · skip
    have c1 := (mz_eq (by omega)).mp c1
    refine lv_iconst (v := nI 1) hx hb dX3_proves_16 (by decide) ?_
    refine lv_goto (tgt := 36) hx hb dX3_proves_17 (by decide) ?_
    refine mx_put (ci := 3) (v := .int (nI 1)) (ty := .int) (C := RX3) (T := TX3) (N := 11) hx hb hts hiX3 tyX3 tyX3_ok nmX3 hown hN hE (S_4f rfl hm1 hm2 rfl) rfl 0 (by decide) (hts (.fieldLink RX3 31 "SealedCupboardsModel" "thrown" "I") (by decide +kernel)) (fun _ h9 => h9) rfl (by decide +kernel) rfl rfl (Nat.le_of_ble_eq_true rfl) dX3_proves_36 (fun H locs hE => ?_)
    obtain ⟨kv2, hkv2⟩ : ∃ y99, y99 = va_up v 4 (upd (v 4) 0 (nI 1)) := ⟨_, rfl⟩
    have hE : mE G (mA ad (Sy cy ad cn ck v o) s.heap.size) s.heap ad (Sy cy ad cn ck kv2 o) H locs := by rw [hkv2]; exact (S_4u (upd_s _ _ _) ((upd_n _ _ (by decide)).trans hm1) ((upd_n _ _ (by decide)).trans hm2) ((upd_n _ _ (by decide)).trans rfl)) ▸ hE
    have kf3 : kv2 4 0 = nI 1 := by rw [hkv2, va_up_s, upd_s]
    have kf4 : kv2 4 1 = nI n := by rw [hkv2, va_up_s, upd_n _ _ (by decide)]; exact hm1
    have kf5 : kv2 4 2 = nI k := by rw [hkv2, va_up_s, upd_n _ _ (by decide)]; exact hm2
    have kf6 : kv2 4 10 = v 4 10 := by rw [hkv2, va_up_s, upd_n _ _ (by decide)]
    refine lv_aload_n hx hb dX3_proves_39 rfl (lv_at hl 0 rfl) ?_
    refine va_get (D := G) (ci := 3) (v := .int (nI 1)) (C := RX3) (T := TX3) (N := 11) hx hb hts hiX3 hown hN.1 (mE_P1 hE (S_4f kf3 kf4 kf5 kf6)) 0 rfl rfl 0 (by decide) (hts (.fieldLink RX3 31 "SealedCupboardsModel" "thrown" "I") (by decide +kernel)) (fun _ h9 => h9) rfl dX3_proves_40 ?_
    refine lv_if_eq (tgt := 48) hx hb dX3_proves_43 (by decide) (fun c7 => ?_) (fun c7 => ?_)
    · skip
      have c7 := (mz_eq (by omega)).mp c7
      exfalso; omega
    · skip
      have c7 : ¬ 1 = 0 := fun h9 => c7 ((mz_eq (by omega)).mpr h9)
      refine lv_iconst (v := nI 0) hx hb dX3_proves_46 (by decide) ?_
      exact mx_zret hx hb hr rfl hE hlocks ⟨rfl, ⟨kv2, rfl, fun w h4 h10 h11 => (show kv2 w = v w by rw [hkv2, va_up_n _ _ h4]), kf3, (kf4.trans hm1.symm), (kf5.trans hm2.symm)⟩⟩ dX3_proves_47
  · skip
    have c1 : ¬ 0 = 0 := fun h9 => c1 ((mz_eq (by omega)).mpr h9)
    exfalso; omega

set_option maxHeartbeats 4000000 in
set_option maxRecDepth 100000 in
/-- proves -/
theorem x_X3_proves2 (l : Launch) (G : va_G) (cy : Nat → ClassId) (ad : Nat → Nat) (cn ck n k : Nat) (v : Nat → Nat → Int32) (o : Nat → Int64) (hn : n ≤ 6) (hk : k ≤ 20) (sz : Nat) (hm1 : v 4 1 = nI n) (hm2 : v 4 2 = nI k) (j : Nat) (h_j : j < k) (x : Int32) (hbad : x < 0 ∨ nI 16 ≤ x) (z : Int32) : mMi l yX3_proves wsX3_proves ({ frames := 10, cells := 0, slots := 0, locals := 220 }) G cy ad (Sy cy ad cn ck v o) sz [.ref (ad 4), .int (nI j), .int x, .int z] 0 0 (fun (r : Int32) u => r = nI 0 ∧ ∃ v' : Nat → Nat → Int32, u = (ad, Sy cy ad cn ck v' o) ∧ mQT v v' (nI 1)) := by
  refine Met.ofW (cc := cX3_proves) (maxL := 4) (ret := (some .boolean)) (by decide) rfl ?_
  intro p e s m args below meth c s₁ B hml hv
  obtain ⟨rfl, hv⟩ := hv
  have hsz := hv.1
  subst hsz
  have hN := hv.2.2
  have hE := mP_E hv
  have hx := B.exec
  have hb := B.bytes
  have hr := B.returns
  have hts := atoms_spec (ws := wsX3_proves) B.pre
  have hown : s.vm.findClass RX3 = some m.cls := findClass_of_methodNamed B.named
  have hlocks := B.notSynchronized
  have hiX3 : ∀ w ∈ wsX30, w ∈ wsX3_proves := by decide +kernel
  have hl := lv_entry ([.ref (ad 4), .int (nI j), .int x, .int z]) (n := 4) (Nat.le_of_ble_eq_true rfl)
  rw [lg_entry_eq]
  generalize (lg_sl ([.ref (ad 4), .int (nI j), .int x, .int z]) ++ List.replicate (4 - (lg_sl ([.ref (ad 4), .int (nI j), .int x, .int z])).length) Slot.unset).toArray = ls at hl ⊢
  have hl : lv_has ls 4 [(0, .ref (ad 4)), (1, .int (nI j)), (2, .int x), (3, .int z)] := hl
  refine lv_aload_n hx hb dX3_proves_0 rfl (lv_at hl 0 rfl) ?_
  refine lv_aload_n hx hb dX3_proves_1 rfl (lv_at hl 0 rfl) ?_
  refine lv_iload_n hx hb dX3_proves_2 rfl (lv_at hl 1 rfl) ?_
  refine va_calli (va_runV (As := [.int (nI j)]) (rest := [.ref (ad 4)]) ⟨hx, hb, hml, hown, hts⟩ (c_X3_isSeal l G cy ad cn ck n k v o hn hk _ hm1 hm2 j h_j) (cwV 1 hts gX3_proves_X3_isSeal rfl rfl rfl (by decide +kernel) ⟨Nat.le_of_ble_eq_true rfl, Nat.le_of_ble_eq_true rfl⟩) (mP_V (r := (RX3, TX3, 11)) hN hE (S_4f rfl hm1 hm2 rfl) rfl) rfl rfl hl.1 rfl (lv_room (Nat.le_of_ble_eq_true rfl)) dX3_proves_3 ⟨Nat.le_of_ble_eq_true rfl, Nat.le_of_ble_eq_true rfl⟩) hE.2.2.2 (fun q _ h => mE_A hE q h) (mE_A hE) (fun r uq tq H locs ht hvm hw hB hz1 hk1 hS => ?_)
  obtain ⟨rfl, rfl⟩ := hw
  have hE : mE G (mA ad (Sy cy ad cn ck v o) s.heap.size) s.heap ad (Sy cy ad cn ck v o) H locs := mE_call hE hB ht hS
  refine lv_if_eq (tgt := 16) hx hb dX3_proves_6 (by decide) (fun c1 => ?_) (fun c1 => ?_)
  · skip
    have c1 := (mz_eq (by omega)).mp c1
    exfalso; omega
  · skip
    have c1 : ¬ 1 = 0 := fun h9 => c1 ((mz_eq (by omega)).mpr h9)
    refine lv_iload_n hx hb dX3_proves_9 rfl (lv_at hl 2 rfl) ?_
    refine va_calli (va_runS (As := [.int x]) (rest := [.ref (ad 4)]) ⟨hx, hb, hml, hown, hts⟩ (x_X3_isDrawer l G cy ad (Sy cy ad cn ck v o) _ x hbad) (va_cwS 1 hts gX3_proves_X3_isDrawer rfl rfl rfl (by decide +kernel) ⟨Nat.le_of_ble_eq_true rfl, Nat.le_of_ble_eq_true rfl⟩) (mP_S hN hE) rfl rfl hl.1 rfl (lv_room (Nat.le_of_ble_eq_true rfl)) dX3_proves_10 ⟨Nat.le_of_ble_eq_true rfl, Nat.le_of_ble_eq_true rfl⟩) hE.2.2.2 (fun q _ h => mE_A hE q h) (mE_A hE) (fun r uq tq H locs ht hvm hw hB hz1 hk1 hS => ?_)
    obtain ⟨rfl, rfl⟩ := hw
    have hE : mE G (mA ad (Sy cy ad cn ck v o) s.heap.size) s.heap ad (Sy cy ad cn ck v o) H locs := mE_call hE hB ht hS
    refine lv_if_ne (tgt := 20) hx hb dX3_proves_13 (by decide) (fun c2 => ?_) (fun c2 => ?_)
    · skip
      have c2 : ¬ 0 = 0 := fun h9 => c2 ((mz_eq (by omega)).mpr h9)
      exfalso; omega
    · skip
      have c2 := (mz_eq (by omega)).mp c2
      refine lv_iconst (v := nI 1) hx hb dX3_proves_16 (by decide) ?_
      refine lv_goto (tgt := 36) hx hb dX3_proves_17 (by decide) ?_
      refine mx_put (ci := 3) (v := .int (nI 1)) (ty := .int) (C := RX3) (T := TX3) (N := 11) hx hb hts hiX3 tyX3 tyX3_ok nmX3 hown hN hE (S_4f rfl hm1 hm2 rfl) rfl 0 (by decide) (hts (.fieldLink RX3 31 "SealedCupboardsModel" "thrown" "I") (by decide +kernel)) (fun _ h9 => h9) rfl (by decide +kernel) rfl rfl (Nat.le_of_ble_eq_true rfl) dX3_proves_36 (fun H locs hE => ?_)
      obtain ⟨kv3, hkv3⟩ : ∃ y99, y99 = va_up v 4 (upd (v 4) 0 (nI 1)) := ⟨_, rfl⟩
      have hE : mE G (mA ad (Sy cy ad cn ck v o) s.heap.size) s.heap ad (Sy cy ad cn ck kv3 o) H locs := by rw [hkv3]; exact (S_4u (upd_s _ _ _) ((upd_n _ _ (by decide)).trans hm1) ((upd_n _ _ (by decide)).trans hm2) ((upd_n _ _ (by decide)).trans rfl)) ▸ hE
      have kf4 : kv3 4 0 = nI 1 := by rw [hkv3, va_up_s, upd_s]
      have kf5 : kv3 4 1 = nI n := by rw [hkv3, va_up_s, upd_n _ _ (by decide)]; exact hm1
      have kf6 : kv3 4 2 = nI k := by rw [hkv3, va_up_s, upd_n _ _ (by decide)]; exact hm2
      have kf7 : kv3 4 10 = v 4 10 := by rw [hkv3, va_up_s, upd_n _ _ (by decide)]
      refine lv_aload_n hx hb dX3_proves_39 rfl (lv_at hl 0 rfl) ?_
      refine va_get (D := G) (ci := 3) (v := .int (nI 1)) (C := RX3) (T := TX3) (N := 11) hx hb hts hiX3 hown hN.1 (mE_P1 hE (S_4f kf4 kf5 kf6 kf7)) 0 rfl rfl 0 (by decide) (hts (.fieldLink RX3 31 "SealedCupboardsModel" "thrown" "I") (by decide +kernel)) (fun _ h9 => h9) rfl dX3_proves_40 ?_
      refine lv_if_eq (tgt := 48) hx hb dX3_proves_43 (by decide) (fun c8 => ?_) (fun c8 => ?_)
      · skip
        have c8 := (mz_eq (by omega)).mp c8
        exfalso; omega
      · skip
        have c8 : ¬ 1 = 0 := fun h9 => c8 ((mz_eq (by omega)).mpr h9)
        refine lv_iconst (v := nI 0) hx hb dX3_proves_46 (by decide) ?_
        exact mx_zret hx hb hr rfl hE hlocks ⟨rfl, ⟨kv3, rfl, fun w h4 h10 h11 => (show kv3 w = v w by rw [hkv3, va_up_n _ _ h4]), kf4, (kf5.trans hm1.symm), (kf6.trans hm2.symm)⟩⟩ dX3_proves_47

set_option maxHeartbeats 4000000 in
set_option maxRecDepth 100000 in
/-- proves -/
theorem x_X3_proves3 (l : Launch) (G : va_G) (cy : Nat → ClassId) (ad : Nat → Nat) (cn ck n k : Nat) (v : Nat → Nat → Int32) (o : Nat → Int64) (hn : n ≤ 6) (hk : k ≤ 20) (sz : Nat) (hm1 : v 4 1 = nI n) (hm2 : v 4 2 = nI k) (j : Nat) (h_j : j < k) (d : Nat) (hd : d < 16) (x : Int32) (hbad : x < 0 ∨ nI 10000 ≤ x) : mMi l yX3_proves wsX3_proves ({ frames := 10, cells := 0, slots := 0, locals := 220 }) G cy ad (Sy cy ad cn ck v o) sz [.ref (ad 4), .int (nI j), .int (nI d), .int x] 0 0 (fun (r : Int32) u => r = nI 0 ∧ ∃ v' : Nat → Nat → Int32, u = (ad, Sy cy ad cn ck v' o) ∧ mQT v v' (nI 2)) := by
  refine Met.ofW (cc := cX3_proves) (maxL := 4) (ret := (some .boolean)) (by decide) rfl ?_
  intro p e s m args below meth c s₁ B hml hv
  obtain ⟨rfl, hv⟩ := hv
  have hsz := hv.1
  subst hsz
  have hN := hv.2.2
  have hE := mP_E hv
  have hx := B.exec
  have hb := B.bytes
  have hr := B.returns
  have hts := atoms_spec (ws := wsX3_proves) B.pre
  have hown : s.vm.findClass RX3 = some m.cls := findClass_of_methodNamed B.named
  have hlocks := B.notSynchronized
  have hiX3 : ∀ w ∈ wsX30, w ∈ wsX3_proves := by decide +kernel
  have hl := lv_entry ([.ref (ad 4), .int (nI j), .int (nI d), .int x]) (n := 4) (Nat.le_of_ble_eq_true rfl)
  rw [lg_entry_eq]
  generalize (lg_sl ([.ref (ad 4), .int (nI j), .int (nI d), .int x]) ++ List.replicate (4 - (lg_sl ([.ref (ad 4), .int (nI j), .int (nI d), .int x])).length) Slot.unset).toArray = ls at hl ⊢
  have hl : lv_has ls 4 [(0, .ref (ad 4)), (1, .int (nI j)), (2, .int (nI d)), (3, .int x)] := hl
  refine lv_aload_n hx hb dX3_proves_0 rfl (lv_at hl 0 rfl) ?_
  refine lv_aload_n hx hb dX3_proves_1 rfl (lv_at hl 0 rfl) ?_
  refine lv_iload_n hx hb dX3_proves_2 rfl (lv_at hl 1 rfl) ?_
  refine va_calli (va_runV (As := [.int (nI j)]) (rest := [.ref (ad 4)]) ⟨hx, hb, hml, hown, hts⟩ (c_X3_isSeal l G cy ad cn ck n k v o hn hk _ hm1 hm2 j h_j) (cwV 1 hts gX3_proves_X3_isSeal rfl rfl rfl (by decide +kernel) ⟨Nat.le_of_ble_eq_true rfl, Nat.le_of_ble_eq_true rfl⟩) (mP_V (r := (RX3, TX3, 11)) hN hE (S_4f rfl hm1 hm2 rfl) rfl) rfl rfl hl.1 rfl (lv_room (Nat.le_of_ble_eq_true rfl)) dX3_proves_3 ⟨Nat.le_of_ble_eq_true rfl, Nat.le_of_ble_eq_true rfl⟩) hE.2.2.2 (fun q _ h => mE_A hE q h) (mE_A hE) (fun r uq tq H locs ht hvm hw hB hz1 hk1 hS => ?_)
  obtain ⟨rfl, rfl⟩ := hw
  have hE : mE G (mA ad (Sy cy ad cn ck v o) s.heap.size) s.heap ad (Sy cy ad cn ck v o) H locs := mE_call hE hB ht hS
  refine lv_if_eq (tgt := 16) hx hb dX3_proves_6 (by decide) (fun c1 => ?_) (fun c1 => ?_)
  · skip
    have c1 := (mz_eq (by omega)).mp c1
    exfalso; omega
  · skip
    have c1 : ¬ 1 = 0 := fun h9 => c1 ((mz_eq (by omega)).mpr h9)
    refine lv_iload_n hx hb dX3_proves_9 rfl (lv_at hl 2 rfl) ?_
    refine va_calli (va_runS (As := [.int (nI d)]) (rest := [.ref (ad 4)]) ⟨hx, hb, hml, hown, hts⟩ (c_X3_isDrawer l G cy ad (Sy cy ad cn ck v o) _ d (by omega)) (va_cwS 1 hts gX3_proves_X3_isDrawer rfl rfl rfl (by decide +kernel) ⟨Nat.le_of_ble_eq_true rfl, Nat.le_of_ble_eq_true rfl⟩) (mP_S hN hE) rfl rfl hl.1 rfl (lv_room (Nat.le_of_ble_eq_true rfl)) dX3_proves_10 ⟨Nat.le_of_ble_eq_true rfl, Nat.le_of_ble_eq_true rfl⟩) hE.2.2.2 (fun q _ h => mE_A hE q h) (mE_A hE) (fun r uq tq H locs ht hvm hw hB hz1 hk1 hS => ?_)
    obtain ⟨rfl, rfl⟩ := hw
    have hE : mE G (mA ad (Sy cy ad cn ck v o) s.heap.size) s.heap ad (Sy cy ad cn ck v o) H locs := mE_call hE hB ht hS
    refine lv_if_ne (tgt := 20) hx hb dX3_proves_13 (by decide) (fun c2 => ?_) (fun c2 => ?_)
    · skip
      have c2 : ¬ 1 = 0 := fun h9 => c2 ((mz_eq (by omega)).mpr h9)
      refine lv_iload_n hx hb dX3_proves_20 rfl (lv_at hl 3 rfl) ?_
      refine lv_iconst (v := nI 0) hx hb dX3_proves_21 (by decide) ?_
      refine lv_sipush (v := nI 9999) hx hb dX3_proves_22 (by decide) ?_
      refine va_calli (va_runS (As := [.int x, .int (nI 0), .int (nI 9999)]) (rest := [.ref (ad 4)]) ⟨hx, hb, hml, hown, hts⟩ (x_X3_isIn l G cy ad (Sy cy ad cn ck v o) _ x (nI 0) (nI 9999) (mi_bad hbad rfl (by decide))) (va_cwS 3 hts gX3_proves_X3_isIn rfl rfl rfl (by decide +kernel) ⟨Nat.le_of_ble_eq_true rfl, Nat.le_of_ble_eq_true rfl⟩) (mP_S hN hE) rfl rfl hl.1 rfl (lv_room (Nat.le_of_ble_eq_true rfl)) dX3_proves_25 ⟨Nat.le_of_ble_eq_true rfl, Nat.le_of_ble_eq_true rfl⟩) hE.2.2.2 (fun q _ h => mE_A hE q h) (mE_A hE) (fun r uq tq H locs ht hvm hw hB hz1 hk1 hS => ?_)
      obtain ⟨rfl, rfl⟩ := hw
      have hE : mE G (mA ad (Sy cy ad cn ck v o) s.heap.size) s.heap ad (Sy cy ad cn ck v o) H locs := mE_call hE hB ht hS
      refine lv_if_ne (tgt := 35) hx hb dX3_proves_28 (by decide) (fun c3 => ?_) (fun c3 => ?_)
      · skip
        have c3 : ¬ 0 = 0 := fun h9 => c3 ((mz_eq (by omega)).mpr h9)
        exfalso; omega
      · skip
        have c3 := (mz_eq (by omega)).mp c3
        refine lv_iconst (v := nI 2) hx hb dX3_proves_31 (by decide) ?_
        refine lv_goto (tgt := 36) hx hb dX3_proves_32 (by decide) ?_
        refine mx_put (ci := 3) (v := .int (nI 2)) (ty := .int) (C := RX3) (T := TX3) (N := 11) hx hb hts hiX3 tyX3 tyX3_ok nmX3 hown hN hE (S_4f rfl hm1 hm2 rfl) rfl 0 (by decide) (hts (.fieldLink RX3 31 "SealedCupboardsModel" "thrown" "I") (by decide +kernel)) (fun _ h9 => h9) rfl (by decide +kernel) rfl rfl (Nat.le_of_ble_eq_true rfl) dX3_proves_36 (fun H locs hE => ?_)
        obtain ⟨kv4, hkv4⟩ : ∃ y99, y99 = va_up v 4 (upd (v 4) 0 (nI 2)) := ⟨_, rfl⟩
        have hE : mE G (mA ad (Sy cy ad cn ck v o) s.heap.size) s.heap ad (Sy cy ad cn ck kv4 o) H locs := by rw [hkv4]; exact (S_4u (upd_s _ _ _) ((upd_n _ _ (by decide)).trans hm1) ((upd_n _ _ (by decide)).trans hm2) ((upd_n _ _ (by decide)).trans rfl)) ▸ hE
        have kf5 : kv4 4 0 = nI 2 := by rw [hkv4, va_up_s, upd_s]
        have kf6 : kv4 4 1 = nI n := by rw [hkv4, va_up_s, upd_n _ _ (by decide)]; exact hm1
        have kf7 : kv4 4 2 = nI k := by rw [hkv4, va_up_s, upd_n _ _ (by decide)]; exact hm2
        have kf8 : kv4 4 10 = v 4 10 := by rw [hkv4, va_up_s, upd_n _ _ (by decide)]
        refine lv_aload_n hx hb dX3_proves_39 rfl (lv_at hl 0 rfl) ?_
        refine va_get (D := G) (ci := 3) (v := .int (nI 2)) (C := RX3) (T := TX3) (N := 11) hx hb hts hiX3 hown hN.1 (mE_P1 hE (S_4f kf5 kf6 kf7 kf8)) 0 rfl rfl 0 (by decide) (hts (.fieldLink RX3 31 "SealedCupboardsModel" "thrown" "I") (by decide +kernel)) (fun _ h9 => h9) rfl dX3_proves_40 ?_
        refine lv_if_eq (tgt := 48) hx hb dX3_proves_43 (by decide) (fun c9 => ?_) (fun c9 => ?_)
        · skip
          have c9 := (mz_eq (by omega)).mp c9
          exfalso; omega
        · skip
          have c9 : ¬ 2 = 0 := fun h9 => c9 ((mz_eq (by omega)).mpr h9)
          refine lv_iconst (v := nI 0) hx hb dX3_proves_46 (by decide) ?_
          exact mx_zret hx hb hr rfl hE hlocks ⟨rfl, ⟨kv4, rfl, fun w h4 h10 h11 => (show kv4 w = v w by rw [hkv4, va_up_n _ _ h4]), kf5, (kf6.trans hm1.symm), (kf7.trans hm2.symm)⟩⟩ dX3_proves_47
    · skip
      have c2 := (mz_eq (by omega)).mp c2
      exfalso; omega

set_option maxHeartbeats 4000000 in
set_option maxRecDepth 100000 in
/-- differ -/
theorem c_X3_differ (l : Launch) (G : va_G) (cy : Nat → ClassId) (ad : Nat → Nat) (cn ck n k : Nat) (v : Nat → Nat → Int32) (o : Nat → Int64) (hn : n ≤ 6) (hk : k ≤ 20) (sz : Nat) (hm1 : v 4 1 = nI n) (hm2 : v 4 2 = nI k) (a b9 : Nat) (h_a : a < n) (h_b9 : b9 < n) {f5 : Nat → Int32} (h5 : v 5 = f5) : mMi l yX3_differ wsX3_differ ({ frames := 13, cells := 0, slots := 0, locals := 340 }) G cy ad (Sy cy ad cn ck v o) sz [.ref (ad 4), .int (nI a), .int (nI b9)] 0 0 (fun (r : Int32) u => r = nI (mCm (mS (fun d => f5 (16 * a + d))) (mS (fun d => f5 (16 * b9 + d))) 4 1) ∧ ∃ v' : Nat → Nat → Int32, u = (ad, Sy cy ad cn ck v' o) ∧ mQT v v' (nI 0)) := by
  refine Met.ofW (cc := cX3_differ) (maxL := 3) (ret := (some .int)) (by decide) rfl ?_
  intro p e s m args below meth c s₁ B hml hv
  obtain ⟨rfl, hv⟩ := hv
  have hsz := hv.1
  subst hsz
  have hN := hv.2.2
  have hE := mP_E hv
  have hx := B.exec
  have hb := B.bytes
  have hr := B.returns
  have hts := atoms_spec (ws := wsX3_differ) B.pre
  have hown : s.vm.findClass RX3 = some m.cls := findClass_of_methodNamed B.named
  have hlocks := B.notSynchronized
  have hiX3 : ∀ w ∈ wsX30, w ∈ wsX3_differ := by decide +kernel
  have hl := lv_entry ([.ref (ad 4), .int (nI a), .int (nI b9)]) (n := 3) (Nat.le_of_ble_eq_true rfl)
  rw [lg_entry_eq]
  generalize (lg_sl ([.ref (ad 4), .int (nI a), .int (nI b9)]) ++ List.replicate (3 - (lg_sl ([.ref (ad 4), .int (nI a), .int (nI b9)])).length) Slot.unset).toArray = ls at hl ⊢
  have hl : lv_has ls 3 [(0, .ref (ad 4)), (1, .int (nI a)), (2, .int (nI b9))] := hl
  refine lv_aload_n hx hb dX3_differ_0 rfl (lv_at hl 0 rfl) ?_
  refine lv_iconst (v := nI 0) hx hb dX3_differ_1 (by decide) ?_
  refine mx_put (ci := 3) (v := .int (nI 0)) (ty := .int) (C := RX3) (T := TX3) (N := 11) hx hb hts hiX3 tyX3 tyX3_ok nmX3 hown hN hE (S_4f rfl hm1 hm2 rfl) rfl 0 (by decide) (hts (.fieldLink RX3 31 "SealedCupboardsModel" "thrown" "I") (by decide +kernel)) (fun _ h9 => h9) rfl (by decide +kernel) rfl rfl (Nat.le_of_ble_eq_true rfl) dX3_differ_2 (fun H locs hE => ?_)
  obtain ⟨kv1, hkv1⟩ : ∃ y99, y99 = va_up v 4 (upd (v 4) 0 (nI 0)) := ⟨_, rfl⟩
  have hE : mE G (mA ad (Sy cy ad cn ck v o) s.heap.size) s.heap ad (Sy cy ad cn ck kv1 o) H locs := by rw [hkv1]; exact (S_4u (upd_s _ _ _) ((upd_n _ _ (by decide)).trans hm1) ((upd_n _ _ (by decide)).trans hm2) ((upd_n _ _ (by decide)).trans rfl)) ▸ hE
  have kf2 : kv1 4 0 = nI 0 := by rw [hkv1, va_up_s, upd_s]
  have kf3 : kv1 4 1 = nI n := by rw [hkv1, va_up_s, upd_n _ _ (by decide)]; exact hm1
  have kf4 : kv1 4 2 = nI k := by rw [hkv1, va_up_s, upd_n _ _ (by decide)]; exact hm2
  have kf5 : kv1 4 10 = v 4 10 := by rw [hkv1, va_up_s, upd_n _ _ (by decide)]
  have ke6 : kv1 5 = f5 := by rw [hkv1, va_up_n _ _ (by omega)]; exact h5
  refine lv_aload_n hx hb dX3_differ_5 rfl (lv_at hl 0 rfl) ?_
  refine lv_iload_n hx hb dX3_differ_6 rfl (lv_at hl 1 rfl) ?_
  refine va_calli (va_runV (As := [.int (nI a)]) (rest := []) ⟨hx, hb, hml, hown, hts⟩ (c_X3_isCupboard l G cy ad cn ck n k kv1 o hn hk _ kf3 kf4 a h_a) (cwV 1 hts gX3_differ_X3_isCupboard rfl rfl rfl (by decide +kernel) ⟨Nat.le_of_ble_eq_true rfl, Nat.le_of_ble_eq_true rfl⟩) (mP_V (r := (RX3, TX3, 11)) hN hE (S_4f kf2 kf3 kf4 kf5) rfl) rfl rfl hl.1 rfl (lv_room (Nat.le_of_ble_eq_true rfl)) dX3_differ_7 ⟨Nat.le_of_ble_eq_true rfl, Nat.le_of_ble_eq_true rfl⟩) hE.2.2.2 (fun q _ h => mE_A hE q h) (mE_A hE) (fun r uq tq H locs ht hvm hw hB hz1 hk1 hS => ?_)
  obtain ⟨rfl, rfl⟩ := hw
  have hE : mE G (mA ad (Sy cy ad cn ck v o) s.heap.size) s.heap ad (Sy cy ad cn ck kv1 o) H locs := mE_call hE hB ht hS
  refine lv_if_eq (tgt := 30) hx hb dX3_differ_10 (by decide) (fun c7 => ?_) (fun c7 => ?_)
  · skip
    have c7 := (mz_eq (by omega)).mp c7
    exfalso; omega
  · skip
    have c7 : ¬ 1 = 0 := fun h9 => c7 ((mz_eq (by omega)).mpr h9)
    refine lv_aload_n hx hb dX3_differ_13 rfl (lv_at hl 0 rfl) ?_
    refine lv_iload_n hx hb dX3_differ_14 rfl (lv_at hl 2 rfl) ?_
    refine va_calli (va_runV (As := [.int (nI b9)]) (rest := []) ⟨hx, hb, hml, hown, hts⟩ (c_X3_isCupboard l G cy ad cn ck n k kv1 o hn hk _ kf3 kf4 b9 h_b9) (cwV 1 hts gX3_differ_X3_isCupboard rfl rfl rfl (by decide +kernel) ⟨Nat.le_of_ble_eq_true rfl, Nat.le_of_ble_eq_true rfl⟩) (mP_V (r := (RX3, TX3, 11)) hN hE (S_4f kf2 kf3 kf4 kf5) rfl) rfl rfl hl.1 rfl (lv_room (Nat.le_of_ble_eq_true rfl)) dX3_differ_15 ⟨Nat.le_of_ble_eq_true rfl, Nat.le_of_ble_eq_true rfl⟩) hE.2.2.2 (fun q _ h => mE_A hE q h) (mE_A hE) (fun r uq tq H locs ht hvm hw hB hz1 hk1 hS => ?_)
    obtain ⟨rfl, rfl⟩ := hw
    have hE : mE G (mA ad (Sy cy ad cn ck v o) s.heap.size) s.heap ad (Sy cy ad cn ck kv1 o) H locs := mE_call hE hB ht hS
    refine lv_if_eq (tgt := 30) hx hb dX3_differ_18 (by decide) (fun c8 => ?_) (fun c8 => ?_)
    · skip
      have c8 := (mz_eq (by omega)).mp c8
      exfalso; omega
    · skip
      have c8 : ¬ 1 = 0 := fun h9 => c8 ((mz_eq (by omega)).mpr h9)
      refine lv_aload_n hx hb dX3_differ_21 rfl (lv_at hl 0 rfl) ?_
      refine lv_iload_n hx hb dX3_differ_22 rfl (lv_at hl 1 rfl) ?_
      refine lv_iload_n hx hb dX3_differ_23 rfl (lv_at hl 2 rfl) ?_
      refine va_calli (va_runV (As := [.int (nI a), .int (nI b9)]) (rest := []) ⟨hx, hb, hml, hown, hts⟩ (c_X3_differing l G cy ad cn ck n k kv1 o hn hk _ kf3 kf4 a b9 h_a h_b9 ke6) (cwV 2 hts gX3_differ_X3_differing rfl rfl rfl (by decide +kernel) ⟨Nat.le_of_ble_eq_true rfl, Nat.le_of_ble_eq_true rfl⟩) (mP_V (r := (RX3, TX3, 11)) hN hE (S_4f kf2 kf3 kf4 kf5) rfl) rfl rfl hl.1 rfl (lv_room (Nat.le_of_ble_eq_true rfl)) dX3_differ_24 ⟨Nat.le_of_ble_eq_true rfl, Nat.le_of_ble_eq_true rfl⟩) hE.2.2.2 (fun q _ h => mE_A hE q h) (mE_A hE) (fun r uq tq H locs ht hvm hw hB hz1 hk1 hS => ?_)
      obtain ⟨rfl, kv9, rfl, kq10⟩ := hw
      have hE : mE G (mA ad (Sy cy ad cn ck v o) s.heap.size) s.heap ad (Sy cy ad cn ck kv9 o) H locs := mE_call hE hB ht hS
      obtain ⟨kq10, kd11⟩ := kq10
      have ke12 : kv9 5 = f5 := (kq10.1 5 (by decide) (by decide) (by decide)).trans ke6
      have kf13 : kv9 4 0 = nI 0 := (kq10.2.1).trans kf2
      have kf14 : kv9 4 1 = nI n := (kq10.2.2.1).trans kf3
      have kf15 : kv9 4 2 = nI k := (kq10.2.2.2).trans kf4
      refine lv_goto (tgt := 35) hx hb dX3_differ_27 (by decide) ?_
      exact mx_iret hx hb hr hE hlocks ⟨rfl, ⟨kv9, rfl, fun w h4 h10 h11 => ((kq10.1 w h4 h10 h11).trans (show kv1 w = v w by rw [hkv1, va_up_n _ _ h4])), kf13, (kf14.trans hm1.symm), (kf15.trans hm2.symm)⟩⟩ dX3_differ_35

set_option maxHeartbeats 4000000 in
set_option maxRecDepth 100000 in
/-- looks -/
theorem c_X3_looks (l : Launch) (G : va_G) (cy : Nat → ClassId) (ad : Nat → Nat) (cn ck n k : Nat) (v : Nat → Nat → Int32) (o : Nat → Int64) (hn : n ≤ 6) (hk : k ≤ 20) (sz : Nat) (hm1 : v 4 1 = nI n) (hm2 : v 4 2 = nI k) (a b9 : Nat) (h_a : a < n) (h_b9 : b9 < n) {f5 : Nat → Int32} (h5 : v 5 = f5) : mMi l yX3_looks wsX3_looks ({ frames := 13, cells := 0, slots := 0, locals := 340 }) G cy ad (Sy cy ad cn ck v o) sz [.ref (ad 4), .int (nI a), .int (nI b9)] 0 0 (fun (r : Int32) u => r = nI (mCl (mS (fun d => f5 (16 * a + d))) (mS (fun d => f5 (16 * b9 + d))) 4 1) ∧ ∃ v' : Nat → Nat → Int32, u = (ad, Sy cy ad cn ck v' o) ∧ mQT v v' (nI 0)) := by
  refine Met.ofW (cc := cX3_looks) (maxL := 3) (ret := (some .int)) (by decide) rfl ?_
  intro p e s m args below meth c s₁ B hml hv
  obtain ⟨rfl, hv⟩ := hv
  have hsz := hv.1
  subst hsz
  have hN := hv.2.2
  have hE := mP_E hv
  have hx := B.exec
  have hb := B.bytes
  have hr := B.returns
  have hts := atoms_spec (ws := wsX3_looks) B.pre
  have hown : s.vm.findClass RX3 = some m.cls := findClass_of_methodNamed B.named
  have hlocks := B.notSynchronized
  have hiX3 : ∀ w ∈ wsX30, w ∈ wsX3_looks := by decide +kernel
  have hl := lv_entry ([.ref (ad 4), .int (nI a), .int (nI b9)]) (n := 3) (Nat.le_of_ble_eq_true rfl)
  rw [lg_entry_eq]
  generalize (lg_sl ([.ref (ad 4), .int (nI a), .int (nI b9)]) ++ List.replicate (3 - (lg_sl ([.ref (ad 4), .int (nI a), .int (nI b9)])).length) Slot.unset).toArray = ls at hl ⊢
  have hl : lv_has ls 3 [(0, .ref (ad 4)), (1, .int (nI a)), (2, .int (nI b9))] := hl
  refine lv_aload_n hx hb dX3_looks_0 rfl (lv_at hl 0 rfl) ?_
  refine lv_iconst (v := nI 0) hx hb dX3_looks_1 (by decide) ?_
  refine mx_put (ci := 3) (v := .int (nI 0)) (ty := .int) (C := RX3) (T := TX3) (N := 11) hx hb hts hiX3 tyX3 tyX3_ok nmX3 hown hN hE (S_4f rfl hm1 hm2 rfl) rfl 0 (by decide) (hts (.fieldLink RX3 31 "SealedCupboardsModel" "thrown" "I") (by decide +kernel)) (fun _ h9 => h9) rfl (by decide +kernel) rfl rfl (Nat.le_of_ble_eq_true rfl) dX3_looks_2 (fun H locs hE => ?_)
  obtain ⟨kv1, hkv1⟩ : ∃ y99, y99 = va_up v 4 (upd (v 4) 0 (nI 0)) := ⟨_, rfl⟩
  have hE : mE G (mA ad (Sy cy ad cn ck v o) s.heap.size) s.heap ad (Sy cy ad cn ck kv1 o) H locs := by rw [hkv1]; exact (S_4u (upd_s _ _ _) ((upd_n _ _ (by decide)).trans hm1) ((upd_n _ _ (by decide)).trans hm2) ((upd_n _ _ (by decide)).trans rfl)) ▸ hE
  have kf2 : kv1 4 0 = nI 0 := by rw [hkv1, va_up_s, upd_s]
  have kf3 : kv1 4 1 = nI n := by rw [hkv1, va_up_s, upd_n _ _ (by decide)]; exact hm1
  have kf4 : kv1 4 2 = nI k := by rw [hkv1, va_up_s, upd_n _ _ (by decide)]; exact hm2
  have kf5 : kv1 4 10 = v 4 10 := by rw [hkv1, va_up_s, upd_n _ _ (by decide)]
  have ke6 : kv1 5 = f5 := by rw [hkv1, va_up_n _ _ (by omega)]; exact h5
  refine lv_aload_n hx hb dX3_looks_5 rfl (lv_at hl 0 rfl) ?_
  refine lv_iload_n hx hb dX3_looks_6 rfl (lv_at hl 1 rfl) ?_
  refine va_calli (va_runV (As := [.int (nI a)]) (rest := []) ⟨hx, hb, hml, hown, hts⟩ (c_X3_isCupboard l G cy ad cn ck n k kv1 o hn hk _ kf3 kf4 a h_a) (cwV 1 hts gX3_looks_X3_isCupboard rfl rfl rfl (by decide +kernel) ⟨Nat.le_of_ble_eq_true rfl, Nat.le_of_ble_eq_true rfl⟩) (mP_V (r := (RX3, TX3, 11)) hN hE (S_4f kf2 kf3 kf4 kf5) rfl) rfl rfl hl.1 rfl (lv_room (Nat.le_of_ble_eq_true rfl)) dX3_looks_7 ⟨Nat.le_of_ble_eq_true rfl, Nat.le_of_ble_eq_true rfl⟩) hE.2.2.2 (fun q _ h => mE_A hE q h) (mE_A hE) (fun r uq tq H locs ht hvm hw hB hz1 hk1 hS => ?_)
  obtain ⟨rfl, rfl⟩ := hw
  have hE : mE G (mA ad (Sy cy ad cn ck v o) s.heap.size) s.heap ad (Sy cy ad cn ck kv1 o) H locs := mE_call hE hB ht hS
  refine lv_if_eq (tgt := 21) hx hb dX3_looks_10 (by decide) (fun c7 => ?_) (fun c7 => ?_)
  · skip
    have c7 := (mz_eq (by omega)).mp c7
    exfalso; omega
  · skip
    have c7 : ¬ 1 = 0 := fun h9 => c7 ((mz_eq (by omega)).mpr h9)
    refine lv_aload_n hx hb dX3_looks_13 rfl (lv_at hl 0 rfl) ?_
    refine lv_iload_n hx hb dX3_looks_14 rfl (lv_at hl 2 rfl) ?_
    refine va_calli (va_runV (As := [.int (nI b9)]) (rest := []) ⟨hx, hb, hml, hown, hts⟩ (c_X3_isCupboard l G cy ad cn ck n k kv1 o hn hk _ kf3 kf4 b9 h_b9) (cwV 1 hts gX3_looks_X3_isCupboard rfl rfl rfl (by decide +kernel) ⟨Nat.le_of_ble_eq_true rfl, Nat.le_of_ble_eq_true rfl⟩) (mP_V (r := (RX3, TX3, 11)) hN hE (S_4f kf2 kf3 kf4 kf5) rfl) rfl rfl hl.1 rfl (lv_room (Nat.le_of_ble_eq_true rfl)) dX3_looks_15 ⟨Nat.le_of_ble_eq_true rfl, Nat.le_of_ble_eq_true rfl⟩) hE.2.2.2 (fun q _ h => mE_A hE q h) (mE_A hE) (fun r uq tq H locs ht hvm hw hB hz1 hk1 hS => ?_)
    obtain ⟨rfl, rfl⟩ := hw
    have hE : mE G (mA ad (Sy cy ad cn ck v o) s.heap.size) s.heap ad (Sy cy ad cn ck kv1 o) H locs := mE_call hE hB ht hS
    refine lv_if_ne (tgt := 27) hx hb dX3_looks_18 (by decide) (fun c8 => ?_) (fun c8 => ?_)
    · skip
      have c8 : ¬ 1 = 0 := fun h9 => c8 ((mz_eq (by omega)).mpr h9)
      refine lv_aload_n hx hb dX3_looks_27 rfl (lv_at hl 0 rfl) ?_
      refine lv_iload_n hx hb dX3_looks_28 rfl (lv_at hl 1 rfl) ?_
      refine lv_iload_n hx hb dX3_looks_29 rfl (lv_at hl 2 rfl) ?_
      refine va_calli (va_runV (As := [.int (nI a), .int (nI b9)]) (rest := []) ⟨hx, hb, hml, hown, hts⟩ (c_X3_differing l G cy ad cn ck n k kv1 o hn hk _ kf3 kf4 a b9 h_a h_b9 ke6) (cwV 2 hts gX3_looks_X3_differing rfl rfl rfl (by decide +kernel) ⟨Nat.le_of_ble_eq_true rfl, Nat.le_of_ble_eq_true rfl⟩) (mP_V (r := (RX3, TX3, 11)) hN hE (S_4f kf2 kf3 kf4 kf5) rfl) rfl rfl hl.1 rfl (lv_room (Nat.le_of_ble_eq_true rfl)) dX3_looks_30 ⟨Nat.le_of_ble_eq_true rfl, Nat.le_of_ble_eq_true rfl⟩) hE.2.2.2 (fun q _ h => mE_A hE q h) (mE_A hE) (fun r uq tq H locs ht hvm hw hB hz1 hk1 hS => ?_)
      obtain ⟨rfl, kv9, rfl, kq10⟩ := hw
      have hE : mE G (mA ad (Sy cy ad cn ck v o) s.heap.size) s.heap ad (Sy cy ad cn ck kv9 o) H locs := mE_call hE hB ht hS
      obtain ⟨kq10, kd11⟩ := kq10
      have ke12 : kv9 5 = f5 := (kq10.1 5 (by decide) (by decide) (by decide)).trans ke6
      have kf13 : kv9 4 0 = nI 0 := (kq10.2.1).trans kf2
      have kf14 : kv9 4 1 = nI n := (kq10.2.2.1).trans kf3
      have kf15 : kv9 4 2 = nI k := (kq10.2.2.2).trans kf4
      refine lv_pop hx hb dX3_looks_33 rfl ?_
      refine lv_aload_n hx hb dX3_looks_34 rfl (lv_at hl 0 rfl) ?_
      refine va_get (D := G) (ci := 3) (v := .int (nI (mCl (mS (fun d => f5 (16 * a + d))) (mS (fun d => f5 (16 * b9 + d))) 4 1))) (C := RX3) (T := TX3) (N := 11) hx hb hts hiX3 hown hN.1 (mE_P1 hE (S_4f kf13 kf14 kf15 kd11)) 0 rfl rfl 10 (by decide) (hts (.fieldLink RX3 100 "SealedCupboardsModel" "looked" "I") (by decide +kernel)) (fun _ h9 => h9) rfl dX3_looks_35 ?_
      exact mx_iret hx hb hr hE hlocks ⟨rfl, ⟨kv9, rfl, fun w h4 h10 h11 => ((kq10.1 w h4 h10 h11).trans (show kv1 w = v w by rw [hkv1, va_up_n _ _ h4])), kf13, (kf14.trans hm1.symm), (kf15.trans hm2.symm)⟩⟩ dX3_looks_38
    · skip
      have c8 := (mz_eq (by omega)).mp c8
      exfalso; omega

set_option maxHeartbeats 4000000 in
set_option maxRecDepth 100000 in
/-- differ -/
theorem x_X3_differ1 (l : Launch) (G : va_G) (cy : Nat → ClassId) (ad : Nat → Nat) (cn ck n k : Nat) (v : Nat → Nat → Int32) (o : Nat → Int64) (hn : n ≤ 6) (hk : k ≤ 20) (sz : Nat) (hm1 : v 4 1 = nI n) (hm2 : v 4 2 = nI k) (x : Int32) (hbad : x < 0 ∨ nI n ≤ x) (y : Int32) : mMi l yX3_differ wsX3_differ ({ frames := 13, cells := 0, slots := 0, locals := 340 }) G cy ad (Sy cy ad cn ck v o) sz [.ref (ad 4), .int x, .int y] 0 0 (fun (r : Int32) u => r = nI 0 ∧ ∃ v' : Nat → Nat → Int32, u = (ad, Sy cy ad cn ck v' o) ∧ mQT v v' (nI 1)) := by
  refine Met.ofW (cc := cX3_differ) (maxL := 3) (ret := (some .int)) (by decide) rfl ?_
  intro p e s m args below meth c s₁ B hml hv
  obtain ⟨rfl, hv⟩ := hv
  have hsz := hv.1
  subst hsz
  have hN := hv.2.2
  have hE := mP_E hv
  have hx := B.exec
  have hb := B.bytes
  have hr := B.returns
  have hts := atoms_spec (ws := wsX3_differ) B.pre
  have hown : s.vm.findClass RX3 = some m.cls := findClass_of_methodNamed B.named
  have hlocks := B.notSynchronized
  have hiX3 : ∀ w ∈ wsX30, w ∈ wsX3_differ := by decide +kernel
  have hl := lv_entry ([.ref (ad 4), .int x, .int y]) (n := 3) (Nat.le_of_ble_eq_true rfl)
  rw [lg_entry_eq]
  generalize (lg_sl ([.ref (ad 4), .int x, .int y]) ++ List.replicate (3 - (lg_sl ([.ref (ad 4), .int x, .int y])).length) Slot.unset).toArray = ls at hl ⊢
  have hl : lv_has ls 3 [(0, .ref (ad 4)), (1, .int x), (2, .int y)] := hl
  refine lv_aload_n hx hb dX3_differ_0 rfl (lv_at hl 0 rfl) ?_
  refine lv_iconst (v := nI 0) hx hb dX3_differ_1 (by decide) ?_
  refine mx_put (ci := 3) (v := .int (nI 0)) (ty := .int) (C := RX3) (T := TX3) (N := 11) hx hb hts hiX3 tyX3 tyX3_ok nmX3 hown hN hE (S_4f rfl hm1 hm2 rfl) rfl 0 (by decide) (hts (.fieldLink RX3 31 "SealedCupboardsModel" "thrown" "I") (by decide +kernel)) (fun _ h9 => h9) rfl (by decide +kernel) rfl rfl (Nat.le_of_ble_eq_true rfl) dX3_differ_2 (fun H locs hE => ?_)
  obtain ⟨kv1, hkv1⟩ : ∃ y99, y99 = va_up v 4 (upd (v 4) 0 (nI 0)) := ⟨_, rfl⟩
  have hE : mE G (mA ad (Sy cy ad cn ck v o) s.heap.size) s.heap ad (Sy cy ad cn ck kv1 o) H locs := by rw [hkv1]; exact (S_4u (upd_s _ _ _) ((upd_n _ _ (by decide)).trans hm1) ((upd_n _ _ (by decide)).trans hm2) ((upd_n _ _ (by decide)).trans rfl)) ▸ hE
  have kf2 : kv1 4 0 = nI 0 := by rw [hkv1, va_up_s, upd_s]
  have kf3 : kv1 4 1 = nI n := by rw [hkv1, va_up_s, upd_n _ _ (by decide)]; exact hm1
  have kf4 : kv1 4 2 = nI k := by rw [hkv1, va_up_s, upd_n _ _ (by decide)]; exact hm2
  have kf5 : kv1 4 10 = v 4 10 := by rw [hkv1, va_up_s, upd_n _ _ (by decide)]
  refine lv_aload_n hx hb dX3_differ_5 rfl (lv_at hl 0 rfl) ?_
  refine lv_iload_n hx hb dX3_differ_6 rfl (lv_at hl 1 rfl) ?_
  refine va_calli (va_runV (As := [.int x]) (rest := []) ⟨hx, hb, hml, hown, hts⟩ (x_X3_isCupboard l G cy ad cn ck n k kv1 o hn hk _ kf3 kf4 x hbad) (cwV 1 hts gX3_differ_X3_isCupboard rfl rfl rfl (by decide +kernel) ⟨Nat.le_of_ble_eq_true rfl, Nat.le_of_ble_eq_true rfl⟩) (mP_V (r := (RX3, TX3, 11)) hN hE (S_4f kf2 kf3 kf4 kf5) rfl) rfl rfl hl.1 rfl (lv_room (Nat.le_of_ble_eq_true rfl)) dX3_differ_7 ⟨Nat.le_of_ble_eq_true rfl, Nat.le_of_ble_eq_true rfl⟩) hE.2.2.2 (fun q _ h => mE_A hE q h) (mE_A hE) (fun r uq tq H locs ht hvm hw hB hz1 hk1 hS => ?_)
  obtain ⟨rfl, rfl⟩ := hw
  have hE : mE G (mA ad (Sy cy ad cn ck v o) s.heap.size) s.heap ad (Sy cy ad cn ck kv1 o) H locs := mE_call hE hB ht hS
  refine lv_if_eq (tgt := 30) hx hb dX3_differ_10 (by decide) (fun c6 => ?_) (fun c6 => ?_)
  · skip
    have c6 := (mz_eq (by omega)).mp c6
    refine lv_aload_n hx hb dX3_differ_30 rfl (lv_at hl 0 rfl) ?_
    refine lv_iconst (v := nI 1) hx hb dX3_differ_31 (by decide) ?_
    refine va_calli (va_runV (As := [.int (nI 1)]) (rest := []) ⟨hx, hb, hml, hown, hts⟩ (c_X3_fail l G cy ad cn ck n k kv1 o hn hk _ kf3 kf4 (nI 1)) (cwV 1 hts gX3_differ_X3_fail rfl rfl rfl (by decide +kernel) ⟨Nat.le_of_ble_eq_true rfl, Nat.le_of_ble_eq_true rfl⟩) (mP_V (r := (RX3, TX3, 11)) hN hE (S_4f kf2 kf3 kf4 kf5) rfl) rfl rfl hl.1 rfl (lv_room (Nat.le_of_ble_eq_true rfl)) dX3_differ_32 ⟨Nat.le_of_ble_eq_true rfl, Nat.le_of_ble_eq_true rfl⟩) hE.2.2.2 (fun q _ h => mE_A hE q h) (mE_A hE) (fun r uq tq H locs ht hvm hw hB hz1 hk1 hS => ?_)
    obtain ⟨rfl, kv7, rfl, kq8⟩ := hw
    have hE : mE G (mA ad (Sy cy ad cn ck v o) s.heap.size) s.heap ad (Sy cy ad cn ck kv7 o) H locs := mE_call hE hB ht hS
    have kf9 : kv7 4 0 = nI 1 := kq8.2.1
    have kf10 : kv7 4 1 = nI n := (kq8.2.2.1).trans kf3
    have kf11 : kv7 4 2 = nI k := (kq8.2.2.2).trans kf4
    exact mx_iret hx hb hr hE hlocks ⟨rfl, ⟨kv7, rfl, fun w h4 h10 h11 => ((kq8.1 w h4 h10 h11).trans (show kv1 w = v w by rw [hkv1, va_up_n _ _ h4])), kf9, (kf10.trans hm1.symm), (kf11.trans hm2.symm)⟩⟩ dX3_differ_35
  · skip
    have c6 : ¬ 0 = 0 := fun h9 => c6 ((mz_eq (by omega)).mpr h9)
    exfalso; omega

set_option maxHeartbeats 4000000 in
set_option maxRecDepth 100000 in
/-- differ -/
theorem x_X3_differ2 (l : Launch) (G : va_G) (cy : Nat → ClassId) (ad : Nat → Nat) (cn ck n k : Nat) (v : Nat → Nat → Int32) (o : Nat → Int64) (hn : n ≤ 6) (hk : k ≤ 20) (sz : Nat) (hm1 : v 4 1 = nI n) (hm2 : v 4 2 = nI k) (i : Nat) (h_i : i < n) (x : Int32) (hbad : x < 0 ∨ nI n ≤ x) : mMi l yX3_differ wsX3_differ ({ frames := 13, cells := 0, slots := 0, locals := 340 }) G cy ad (Sy cy ad cn ck v o) sz [.ref (ad 4), .int (nI i), .int x] 0 0 (fun (r : Int32) u => r = nI 0 ∧ ∃ v' : Nat → Nat → Int32, u = (ad, Sy cy ad cn ck v' o) ∧ mQT v v' (nI 1)) := by
  refine Met.ofW (cc := cX3_differ) (maxL := 3) (ret := (some .int)) (by decide) rfl ?_
  intro p e s m args below meth c s₁ B hml hv
  obtain ⟨rfl, hv⟩ := hv
  have hsz := hv.1
  subst hsz
  have hN := hv.2.2
  have hE := mP_E hv
  have hx := B.exec
  have hb := B.bytes
  have hr := B.returns
  have hts := atoms_spec (ws := wsX3_differ) B.pre
  have hown : s.vm.findClass RX3 = some m.cls := findClass_of_methodNamed B.named
  have hlocks := B.notSynchronized
  have hiX3 : ∀ w ∈ wsX30, w ∈ wsX3_differ := by decide +kernel
  have hl := lv_entry ([.ref (ad 4), .int (nI i), .int x]) (n := 3) (Nat.le_of_ble_eq_true rfl)
  rw [lg_entry_eq]
  generalize (lg_sl ([.ref (ad 4), .int (nI i), .int x]) ++ List.replicate (3 - (lg_sl ([.ref (ad 4), .int (nI i), .int x])).length) Slot.unset).toArray = ls at hl ⊢
  have hl : lv_has ls 3 [(0, .ref (ad 4)), (1, .int (nI i)), (2, .int x)] := hl
  refine lv_aload_n hx hb dX3_differ_0 rfl (lv_at hl 0 rfl) ?_
  refine lv_iconst (v := nI 0) hx hb dX3_differ_1 (by decide) ?_
  refine mx_put (ci := 3) (v := .int (nI 0)) (ty := .int) (C := RX3) (T := TX3) (N := 11) hx hb hts hiX3 tyX3 tyX3_ok nmX3 hown hN hE (S_4f rfl hm1 hm2 rfl) rfl 0 (by decide) (hts (.fieldLink RX3 31 "SealedCupboardsModel" "thrown" "I") (by decide +kernel)) (fun _ h9 => h9) rfl (by decide +kernel) rfl rfl (Nat.le_of_ble_eq_true rfl) dX3_differ_2 (fun H locs hE => ?_)
  obtain ⟨kv1, hkv1⟩ : ∃ y99, y99 = va_up v 4 (upd (v 4) 0 (nI 0)) := ⟨_, rfl⟩
  have hE : mE G (mA ad (Sy cy ad cn ck v o) s.heap.size) s.heap ad (Sy cy ad cn ck kv1 o) H locs := by rw [hkv1]; exact (S_4u (upd_s _ _ _) ((upd_n _ _ (by decide)).trans hm1) ((upd_n _ _ (by decide)).trans hm2) ((upd_n _ _ (by decide)).trans rfl)) ▸ hE
  have kf2 : kv1 4 0 = nI 0 := by rw [hkv1, va_up_s, upd_s]
  have kf3 : kv1 4 1 = nI n := by rw [hkv1, va_up_s, upd_n _ _ (by decide)]; exact hm1
  have kf4 : kv1 4 2 = nI k := by rw [hkv1, va_up_s, upd_n _ _ (by decide)]; exact hm2
  have kf5 : kv1 4 10 = v 4 10 := by rw [hkv1, va_up_s, upd_n _ _ (by decide)]
  refine lv_aload_n hx hb dX3_differ_5 rfl (lv_at hl 0 rfl) ?_
  refine lv_iload_n hx hb dX3_differ_6 rfl (lv_at hl 1 rfl) ?_
  refine va_calli (va_runV (As := [.int (nI i)]) (rest := []) ⟨hx, hb, hml, hown, hts⟩ (c_X3_isCupboard l G cy ad cn ck n k kv1 o hn hk _ kf3 kf4 i h_i) (cwV 1 hts gX3_differ_X3_isCupboard rfl rfl rfl (by decide +kernel) ⟨Nat.le_of_ble_eq_true rfl, Nat.le_of_ble_eq_true rfl⟩) (mP_V (r := (RX3, TX3, 11)) hN hE (S_4f kf2 kf3 kf4 kf5) rfl) rfl rfl hl.1 rfl (lv_room (Nat.le_of_ble_eq_true rfl)) dX3_differ_7 ⟨Nat.le_of_ble_eq_true rfl, Nat.le_of_ble_eq_true rfl⟩) hE.2.2.2 (fun q _ h => mE_A hE q h) (mE_A hE) (fun r uq tq H locs ht hvm hw hB hz1 hk1 hS => ?_)
  obtain ⟨rfl, rfl⟩ := hw
  have hE : mE G (mA ad (Sy cy ad cn ck v o) s.heap.size) s.heap ad (Sy cy ad cn ck kv1 o) H locs := mE_call hE hB ht hS
  refine lv_if_eq (tgt := 30) hx hb dX3_differ_10 (by decide) (fun c6 => ?_) (fun c6 => ?_)
  · skip
    have c6 := (mz_eq (by omega)).mp c6
    exfalso; omega
  · skip
    have c6 : ¬ 1 = 0 := fun h9 => c6 ((mz_eq (by omega)).mpr h9)
    refine lv_aload_n hx hb dX3_differ_13 rfl (lv_at hl 0 rfl) ?_
    refine lv_iload_n hx hb dX3_differ_14 rfl (lv_at hl 2 rfl) ?_
    refine va_calli (va_runV (As := [.int x]) (rest := []) ⟨hx, hb, hml, hown, hts⟩ (x_X3_isCupboard l G cy ad cn ck n k kv1 o hn hk _ kf3 kf4 x hbad) (cwV 1 hts gX3_differ_X3_isCupboard rfl rfl rfl (by decide +kernel) ⟨Nat.le_of_ble_eq_true rfl, Nat.le_of_ble_eq_true rfl⟩) (mP_V (r := (RX3, TX3, 11)) hN hE (S_4f kf2 kf3 kf4 kf5) rfl) rfl rfl hl.1 rfl (lv_room (Nat.le_of_ble_eq_true rfl)) dX3_differ_15 ⟨Nat.le_of_ble_eq_true rfl, Nat.le_of_ble_eq_true rfl⟩) hE.2.2.2 (fun q _ h => mE_A hE q h) (mE_A hE) (fun r uq tq H locs ht hvm hw hB hz1 hk1 hS => ?_)
    obtain ⟨rfl, rfl⟩ := hw
    have hE : mE G (mA ad (Sy cy ad cn ck v o) s.heap.size) s.heap ad (Sy cy ad cn ck kv1 o) H locs := mE_call hE hB ht hS
    refine lv_if_eq (tgt := 30) hx hb dX3_differ_18 (by decide) (fun c7 => ?_) (fun c7 => ?_)
    · skip
      have c7 := (mz_eq (by omega)).mp c7
      refine lv_aload_n hx hb dX3_differ_30 rfl (lv_at hl 0 rfl) ?_
      refine lv_iconst (v := nI 1) hx hb dX3_differ_31 (by decide) ?_
      refine va_calli (va_runV (As := [.int (nI 1)]) (rest := []) ⟨hx, hb, hml, hown, hts⟩ (c_X3_fail l G cy ad cn ck n k kv1 o hn hk _ kf3 kf4 (nI 1)) (cwV 1 hts gX3_differ_X3_fail rfl rfl rfl (by decide +kernel) ⟨Nat.le_of_ble_eq_true rfl, Nat.le_of_ble_eq_true rfl⟩) (mP_V (r := (RX3, TX3, 11)) hN hE (S_4f kf2 kf3 kf4 kf5) rfl) rfl rfl hl.1 rfl (lv_room (Nat.le_of_ble_eq_true rfl)) dX3_differ_32 ⟨Nat.le_of_ble_eq_true rfl, Nat.le_of_ble_eq_true rfl⟩) hE.2.2.2 (fun q _ h => mE_A hE q h) (mE_A hE) (fun r uq tq H locs ht hvm hw hB hz1 hk1 hS => ?_)
      obtain ⟨rfl, kv8, rfl, kq9⟩ := hw
      have hE : mE G (mA ad (Sy cy ad cn ck v o) s.heap.size) s.heap ad (Sy cy ad cn ck kv8 o) H locs := mE_call hE hB ht hS
      have kf10 : kv8 4 0 = nI 1 := kq9.2.1
      have kf11 : kv8 4 1 = nI n := (kq9.2.2.1).trans kf3
      have kf12 : kv8 4 2 = nI k := (kq9.2.2.2).trans kf4
      exact mx_iret hx hb hr hE hlocks ⟨rfl, ⟨kv8, rfl, fun w h4 h10 h11 => ((kq9.1 w h4 h10 h11).trans (show kv1 w = v w by rw [hkv1, va_up_n _ _ h4])), kf10, (kf11.trans hm1.symm), (kf12.trans hm2.symm)⟩⟩ dX3_differ_35
    · skip
      have c7 : ¬ 0 = 0 := fun h9 => c7 ((mz_eq (by omega)).mpr h9)
      exfalso; omega

set_option maxHeartbeats 4000000 in
set_option maxRecDepth 100000 in
/-- looks -/
theorem x_X3_looks1 (l : Launch) (G : va_G) (cy : Nat → ClassId) (ad : Nat → Nat) (cn ck n k : Nat) (v : Nat → Nat → Int32) (o : Nat → Int64) (hn : n ≤ 6) (hk : k ≤ 20) (sz : Nat) (hm1 : v 4 1 = nI n) (hm2 : v 4 2 = nI k) (x : Int32) (hbad : x < 0 ∨ nI n ≤ x) (y : Int32) : mMi l yX3_looks wsX3_looks ({ frames := 13, cells := 0, slots := 0, locals := 340 }) G cy ad (Sy cy ad cn ck v o) sz [.ref (ad 4), .int x, .int y] 0 0 (fun (r : Int32) u => r = nI 0 ∧ ∃ v' : Nat → Nat → Int32, u = (ad, Sy cy ad cn ck v' o) ∧ mQT v v' (nI 1)) := by
  refine Met.ofW (cc := cX3_looks) (maxL := 3) (ret := (some .int)) (by decide) rfl ?_
  intro p e s m args below meth c s₁ B hml hv
  obtain ⟨rfl, hv⟩ := hv
  have hsz := hv.1
  subst hsz
  have hN := hv.2.2
  have hE := mP_E hv
  have hx := B.exec
  have hb := B.bytes
  have hr := B.returns
  have hts := atoms_spec (ws := wsX3_looks) B.pre
  have hown : s.vm.findClass RX3 = some m.cls := findClass_of_methodNamed B.named
  have hlocks := B.notSynchronized
  have hiX3 : ∀ w ∈ wsX30, w ∈ wsX3_looks := by decide +kernel
  have hl := lv_entry ([.ref (ad 4), .int x, .int y]) (n := 3) (Nat.le_of_ble_eq_true rfl)
  rw [lg_entry_eq]
  generalize (lg_sl ([.ref (ad 4), .int x, .int y]) ++ List.replicate (3 - (lg_sl ([.ref (ad 4), .int x, .int y])).length) Slot.unset).toArray = ls at hl ⊢
  have hl : lv_has ls 3 [(0, .ref (ad 4)), (1, .int x), (2, .int y)] := hl
  refine lv_aload_n hx hb dX3_looks_0 rfl (lv_at hl 0 rfl) ?_
  refine lv_iconst (v := nI 0) hx hb dX3_looks_1 (by decide) ?_
  refine mx_put (ci := 3) (v := .int (nI 0)) (ty := .int) (C := RX3) (T := TX3) (N := 11) hx hb hts hiX3 tyX3 tyX3_ok nmX3 hown hN hE (S_4f rfl hm1 hm2 rfl) rfl 0 (by decide) (hts (.fieldLink RX3 31 "SealedCupboardsModel" "thrown" "I") (by decide +kernel)) (fun _ h9 => h9) rfl (by decide +kernel) rfl rfl (Nat.le_of_ble_eq_true rfl) dX3_looks_2 (fun H locs hE => ?_)
  obtain ⟨kv1, hkv1⟩ : ∃ y99, y99 = va_up v 4 (upd (v 4) 0 (nI 0)) := ⟨_, rfl⟩
  have hE : mE G (mA ad (Sy cy ad cn ck v o) s.heap.size) s.heap ad (Sy cy ad cn ck kv1 o) H locs := by rw [hkv1]; exact (S_4u (upd_s _ _ _) ((upd_n _ _ (by decide)).trans hm1) ((upd_n _ _ (by decide)).trans hm2) ((upd_n _ _ (by decide)).trans rfl)) ▸ hE
  have kf2 : kv1 4 0 = nI 0 := by rw [hkv1, va_up_s, upd_s]
  have kf3 : kv1 4 1 = nI n := by rw [hkv1, va_up_s, upd_n _ _ (by decide)]; exact hm1
  have kf4 : kv1 4 2 = nI k := by rw [hkv1, va_up_s, upd_n _ _ (by decide)]; exact hm2
  have kf5 : kv1 4 10 = v 4 10 := by rw [hkv1, va_up_s, upd_n _ _ (by decide)]
  refine lv_aload_n hx hb dX3_looks_5 rfl (lv_at hl 0 rfl) ?_
  refine lv_iload_n hx hb dX3_looks_6 rfl (lv_at hl 1 rfl) ?_
  refine va_calli (va_runV (As := [.int x]) (rest := []) ⟨hx, hb, hml, hown, hts⟩ (x_X3_isCupboard l G cy ad cn ck n k kv1 o hn hk _ kf3 kf4 x hbad) (cwV 1 hts gX3_looks_X3_isCupboard rfl rfl rfl (by decide +kernel) ⟨Nat.le_of_ble_eq_true rfl, Nat.le_of_ble_eq_true rfl⟩) (mP_V (r := (RX3, TX3, 11)) hN hE (S_4f kf2 kf3 kf4 kf5) rfl) rfl rfl hl.1 rfl (lv_room (Nat.le_of_ble_eq_true rfl)) dX3_looks_7 ⟨Nat.le_of_ble_eq_true rfl, Nat.le_of_ble_eq_true rfl⟩) hE.2.2.2 (fun q _ h => mE_A hE q h) (mE_A hE) (fun r uq tq H locs ht hvm hw hB hz1 hk1 hS => ?_)
  obtain ⟨rfl, rfl⟩ := hw
  have hE : mE G (mA ad (Sy cy ad cn ck v o) s.heap.size) s.heap ad (Sy cy ad cn ck kv1 o) H locs := mE_call hE hB ht hS
  refine lv_if_eq (tgt := 21) hx hb dX3_looks_10 (by decide) (fun c6 => ?_) (fun c6 => ?_)
  · skip
    have c6 := (mz_eq (by omega)).mp c6
    refine lv_aload_n hx hb dX3_looks_21 rfl (lv_at hl 0 rfl) ?_
    refine lv_iconst (v := nI 1) hx hb dX3_looks_22 (by decide) ?_
    refine va_calli (va_runV (As := [.int (nI 1)]) (rest := []) ⟨hx, hb, hml, hown, hts⟩ (c_X3_fail l G cy ad cn ck n k kv1 o hn hk _ kf3 kf4 (nI 1)) (cwV 1 hts gX3_looks_X3_fail rfl rfl rfl (by decide +kernel) ⟨Nat.le_of_ble_eq_true rfl, Nat.le_of_ble_eq_true rfl⟩) (mP_V (r := (RX3, TX3, 11)) hN hE (S_4f kf2 kf3 kf4 kf5) rfl) rfl rfl hl.1 rfl (lv_room (Nat.le_of_ble_eq_true rfl)) dX3_looks_23 ⟨Nat.le_of_ble_eq_true rfl, Nat.le_of_ble_eq_true rfl⟩) hE.2.2.2 (fun q _ h => mE_A hE q h) (mE_A hE) (fun r uq tq H locs ht hvm hw hB hz1 hk1 hS => ?_)
    obtain ⟨rfl, kv7, rfl, kq8⟩ := hw
    have hE : mE G (mA ad (Sy cy ad cn ck v o) s.heap.size) s.heap ad (Sy cy ad cn ck kv7 o) H locs := mE_call hE hB ht hS
    have kf9 : kv7 4 0 = nI 1 := kq8.2.1
    have kf10 : kv7 4 1 = nI n := (kq8.2.2.1).trans kf3
    have kf11 : kv7 4 2 = nI k := (kq8.2.2.2).trans kf4
    exact mx_iret hx hb hr hE hlocks ⟨rfl, ⟨kv7, rfl, fun w h4 h10 h11 => ((kq8.1 w h4 h10 h11).trans (show kv1 w = v w by rw [hkv1, va_up_n _ _ h4])), kf9, (kf10.trans hm1.symm), (kf11.trans hm2.symm)⟩⟩ dX3_looks_26
  · skip
    have c6 : ¬ 0 = 0 := fun h9 => c6 ((mz_eq (by omega)).mpr h9)
    exfalso; omega

set_option maxHeartbeats 4000000 in
set_option maxRecDepth 100000 in
/-- looks -/
theorem x_X3_looks2 (l : Launch) (G : va_G) (cy : Nat → ClassId) (ad : Nat → Nat) (cn ck n k : Nat) (v : Nat → Nat → Int32) (o : Nat → Int64) (hn : n ≤ 6) (hk : k ≤ 20) (sz : Nat) (hm1 : v 4 1 = nI n) (hm2 : v 4 2 = nI k) (i : Nat) (h_i : i < n) (x : Int32) (hbad : x < 0 ∨ nI n ≤ x) : mMi l yX3_looks wsX3_looks ({ frames := 13, cells := 0, slots := 0, locals := 340 }) G cy ad (Sy cy ad cn ck v o) sz [.ref (ad 4), .int (nI i), .int x] 0 0 (fun (r : Int32) u => r = nI 0 ∧ ∃ v' : Nat → Nat → Int32, u = (ad, Sy cy ad cn ck v' o) ∧ mQT v v' (nI 1)) := by
  refine Met.ofW (cc := cX3_looks) (maxL := 3) (ret := (some .int)) (by decide) rfl ?_
  intro p e s m args below meth c s₁ B hml hv
  obtain ⟨rfl, hv⟩ := hv
  have hsz := hv.1
  subst hsz
  have hN := hv.2.2
  have hE := mP_E hv
  have hx := B.exec
  have hb := B.bytes
  have hr := B.returns
  have hts := atoms_spec (ws := wsX3_looks) B.pre
  have hown : s.vm.findClass RX3 = some m.cls := findClass_of_methodNamed B.named
  have hlocks := B.notSynchronized
  have hiX3 : ∀ w ∈ wsX30, w ∈ wsX3_looks := by decide +kernel
  have hl := lv_entry ([.ref (ad 4), .int (nI i), .int x]) (n := 3) (Nat.le_of_ble_eq_true rfl)
  rw [lg_entry_eq]
  generalize (lg_sl ([.ref (ad 4), .int (nI i), .int x]) ++ List.replicate (3 - (lg_sl ([.ref (ad 4), .int (nI i), .int x])).length) Slot.unset).toArray = ls at hl ⊢
  have hl : lv_has ls 3 [(0, .ref (ad 4)), (1, .int (nI i)), (2, .int x)] := hl
  refine lv_aload_n hx hb dX3_looks_0 rfl (lv_at hl 0 rfl) ?_
  refine lv_iconst (v := nI 0) hx hb dX3_looks_1 (by decide) ?_
  refine mx_put (ci := 3) (v := .int (nI 0)) (ty := .int) (C := RX3) (T := TX3) (N := 11) hx hb hts hiX3 tyX3 tyX3_ok nmX3 hown hN hE (S_4f rfl hm1 hm2 rfl) rfl 0 (by decide) (hts (.fieldLink RX3 31 "SealedCupboardsModel" "thrown" "I") (by decide +kernel)) (fun _ h9 => h9) rfl (by decide +kernel) rfl rfl (Nat.le_of_ble_eq_true rfl) dX3_looks_2 (fun H locs hE => ?_)
  obtain ⟨kv1, hkv1⟩ : ∃ y99, y99 = va_up v 4 (upd (v 4) 0 (nI 0)) := ⟨_, rfl⟩
  have hE : mE G (mA ad (Sy cy ad cn ck v o) s.heap.size) s.heap ad (Sy cy ad cn ck kv1 o) H locs := by rw [hkv1]; exact (S_4u (upd_s _ _ _) ((upd_n _ _ (by decide)).trans hm1) ((upd_n _ _ (by decide)).trans hm2) ((upd_n _ _ (by decide)).trans rfl)) ▸ hE
  have kf2 : kv1 4 0 = nI 0 := by rw [hkv1, va_up_s, upd_s]
  have kf3 : kv1 4 1 = nI n := by rw [hkv1, va_up_s, upd_n _ _ (by decide)]; exact hm1
  have kf4 : kv1 4 2 = nI k := by rw [hkv1, va_up_s, upd_n _ _ (by decide)]; exact hm2
  have kf5 : kv1 4 10 = v 4 10 := by rw [hkv1, va_up_s, upd_n _ _ (by decide)]
  refine lv_aload_n hx hb dX3_looks_5 rfl (lv_at hl 0 rfl) ?_
  refine lv_iload_n hx hb dX3_looks_6 rfl (lv_at hl 1 rfl) ?_
  refine va_calli (va_runV (As := [.int (nI i)]) (rest := []) ⟨hx, hb, hml, hown, hts⟩ (c_X3_isCupboard l G cy ad cn ck n k kv1 o hn hk _ kf3 kf4 i h_i) (cwV 1 hts gX3_looks_X3_isCupboard rfl rfl rfl (by decide +kernel) ⟨Nat.le_of_ble_eq_true rfl, Nat.le_of_ble_eq_true rfl⟩) (mP_V (r := (RX3, TX3, 11)) hN hE (S_4f kf2 kf3 kf4 kf5) rfl) rfl rfl hl.1 rfl (lv_room (Nat.le_of_ble_eq_true rfl)) dX3_looks_7 ⟨Nat.le_of_ble_eq_true rfl, Nat.le_of_ble_eq_true rfl⟩) hE.2.2.2 (fun q _ h => mE_A hE q h) (mE_A hE) (fun r uq tq H locs ht hvm hw hB hz1 hk1 hS => ?_)
  obtain ⟨rfl, rfl⟩ := hw
  have hE : mE G (mA ad (Sy cy ad cn ck v o) s.heap.size) s.heap ad (Sy cy ad cn ck kv1 o) H locs := mE_call hE hB ht hS
  refine lv_if_eq (tgt := 21) hx hb dX3_looks_10 (by decide) (fun c6 => ?_) (fun c6 => ?_)
  · skip
    have c6 := (mz_eq (by omega)).mp c6
    exfalso; omega
  · skip
    have c6 : ¬ 1 = 0 := fun h9 => c6 ((mz_eq (by omega)).mpr h9)
    refine lv_aload_n hx hb dX3_looks_13 rfl (lv_at hl 0 rfl) ?_
    refine lv_iload_n hx hb dX3_looks_14 rfl (lv_at hl 2 rfl) ?_
    refine va_calli (va_runV (As := [.int x]) (rest := []) ⟨hx, hb, hml, hown, hts⟩ (x_X3_isCupboard l G cy ad cn ck n k kv1 o hn hk _ kf3 kf4 x hbad) (cwV 1 hts gX3_looks_X3_isCupboard rfl rfl rfl (by decide +kernel) ⟨Nat.le_of_ble_eq_true rfl, Nat.le_of_ble_eq_true rfl⟩) (mP_V (r := (RX3, TX3, 11)) hN hE (S_4f kf2 kf3 kf4 kf5) rfl) rfl rfl hl.1 rfl (lv_room (Nat.le_of_ble_eq_true rfl)) dX3_looks_15 ⟨Nat.le_of_ble_eq_true rfl, Nat.le_of_ble_eq_true rfl⟩) hE.2.2.2 (fun q _ h => mE_A hE q h) (mE_A hE) (fun r uq tq H locs ht hvm hw hB hz1 hk1 hS => ?_)
    obtain ⟨rfl, rfl⟩ := hw
    have hE : mE G (mA ad (Sy cy ad cn ck v o) s.heap.size) s.heap ad (Sy cy ad cn ck kv1 o) H locs := mE_call hE hB ht hS
    refine lv_if_ne (tgt := 27) hx hb dX3_looks_18 (by decide) (fun c7 => ?_) (fun c7 => ?_)
    · skip
      have c7 : ¬ 0 = 0 := fun h9 => c7 ((mz_eq (by omega)).mpr h9)
      exfalso; omega
    · skip
      have c7 := (mz_eq (by omega)).mp c7
      refine lv_aload_n hx hb dX3_looks_21 rfl (lv_at hl 0 rfl) ?_
      refine lv_iconst (v := nI 1) hx hb dX3_looks_22 (by decide) ?_
      refine va_calli (va_runV (As := [.int (nI 1)]) (rest := []) ⟨hx, hb, hml, hown, hts⟩ (c_X3_fail l G cy ad cn ck n k kv1 o hn hk _ kf3 kf4 (nI 1)) (cwV 1 hts gX3_looks_X3_fail rfl rfl rfl (by decide +kernel) ⟨Nat.le_of_ble_eq_true rfl, Nat.le_of_ble_eq_true rfl⟩) (mP_V (r := (RX3, TX3, 11)) hN hE (S_4f kf2 kf3 kf4 kf5) rfl) rfl rfl hl.1 rfl (lv_room (Nat.le_of_ble_eq_true rfl)) dX3_looks_23 ⟨Nat.le_of_ble_eq_true rfl, Nat.le_of_ble_eq_true rfl⟩) hE.2.2.2 (fun q _ h => mE_A hE q h) (mE_A hE) (fun r uq tq H locs ht hvm hw hB hz1 hk1 hS => ?_)
      obtain ⟨rfl, kv8, rfl, kq9⟩ := hw
      have hE : mE G (mA ad (Sy cy ad cn ck v o) s.heap.size) s.heap ad (Sy cy ad cn ck kv8 o) H locs := mE_call hE hB ht hS
      have kf10 : kv8 4 0 = nI 1 := kq9.2.1
      have kf11 : kv8 4 1 = nI n := (kq9.2.2.1).trans kf3
      have kf12 : kv8 4 2 = nI k := (kq9.2.2.2).trans kf4
      exact mx_iret hx hb hr hE hlocks ⟨rfl, ⟨kv8, rfl, fun w h4 h10 h11 => ((kq9.1 w h4 h10 h11).trans (show kv1 w = v w by rw [hkv1, va_up_n _ _ h4])), kf10, (kf11.trans hm1.symm), (kf12.trans hm2.symm)⟩⟩ dX3_looks_26
