set_option maxHeartbeats 4000000 in
set_option maxRecDepth 100000 in
/-- reckon -/
theorem c_X3_reckon (l : Launch) (G : va_G) (cy : Nat → ClassId) (ad : Nat → Nat) (cn ck n k : Nat) (v : Nat → Nat → Int32) (o : Nat → Int64) (hn : n ≤ 6) (hk : k ≤ 20) (sz : Nat) (hm1 : v 4 1 = nI n) (hm2 : v 4 2 = nI k) (i w : Nat) (h_i : i < n) (hw : ∀ g, sy cy ad cn ck o w g = some (mI cy 32 g)) (hw4 : 4 ≠ w) (hw5 : 5 ≠ w) {f5 : Nat → Int32} (h5 : v 5 = f5) : mMv l yX3_reckon wsX3_reckon ({ frames := 8, cells := 0, slots := 0, locals := 140 }) G cy ad (Sy cy ad cn ck v o) sz [.ref (ad 4), .int (nI i), .ref (ad w)] 0 0 (fun u => ∃ g : Nat → Int32, u = (ad, Sy cy ad cn ck (va_up v w g) o) ∧ mCon g (fun d => f5 (16 * i + d))) := by
  refine Met.ofW (cc := cX3_reckon) (maxL := 4) (ret := none) (by decide) rfl ?_
  intro p e s m args below meth c s₁ B hml hv
  obtain ⟨rfl, hv⟩ := hv
  have hsz := hv.1
  subst hsz
  have hN := hv.2.2
  have hE := mP_E hv
  have hx := B.exec
  have hb := B.bytes
  have hr := B.returns
  have hts := atoms_spec (ws := wsX3_reckon) B.pre
  have hown : s.vm.findClass RX3 = some m.cls := findClass_of_methodNamed B.named
  have hlocks := B.notSynchronized
  have hiX3 : ∀ w ∈ wsX30, w ∈ wsX3_reckon := by decide +kernel
  have hl := lv_entry ([.ref (ad 4), .int (nI i), .ref (ad w)]) (n := 4) (Nat.le_of_ble_eq_true rfl)
  rw [lg_entry_eq]
  generalize (lg_sl ([.ref (ad 4), .int (nI i), .ref (ad w)]) ++ List.replicate (4 - (lg_sl ([.ref (ad 4), .int (nI i), .ref (ad w)])).length) Slot.unset).toArray = ls at hl ⊢
  have hl : lv_has ls 4 [(0, .ref (ad 4)), (1, .int (nI i)), (2, .ref (ad w))] := hl
  refine lv_iconst (v := nI 0) hx hb dX3_reckon_0 (by decide) ?_
  refine lv_istore_n (lv' := [(3, .int (nI 0)), (0, .ref (ad 4)), (1, .int (nI i)), (2, .ref (ad w))]) hx hb dX3_reckon_1 rfl hl (by decide) rfl (fun ls hl => ?_)
  refine mx_loop (β := Nat × (Nat → Nat → Int32)) (fun n9 (bb9 : Nat × (Nat → Nat → Int32)) H locs ls => (fun (d : Nat) (v9 : Nat → Nat → Int32) => n9 = 16 - d ∧ (∃ g : Nat → Int32, d ≤ 16 ∧ v9 = va_up v w g ∧ ∀ e, e < d → g (16 + e) = mLeaf (nI e) (f5 (16 * i + e))) ∧ mE G (mA ad (Sy cy ad cn ck v o) s.heap.size) s.heap ad (Sy cy ad cn ck v9 o) H locs ∧ lv_has ls 4 [(3, .int (nI d)), (0, .ref (ad 4)), (1, .int (nI i)), (2, .ref (ad w))]) (bb9.1) (bb9.2)) ?_ (16 - 0) (0, v) _ _ _ ⟨rfl, ⟨v w, by omega, (va_up_id v w).symm, fun e h => absurd h (Nat.not_lt_zero e)⟩, hE, lv_sub hl [0, 1, 2, 3] rfl⟩
  intro n9 bb9 H locs ls hI ih1
  obtain ⟨d, v9⟩ := bb9
  obtain ⟨hn2, ⟨g, hle, rfl, hlf⟩, hE, hl⟩ := hI
  have hE : mE G (mA ad (Sy cy ad cn ck v o) s.heap.size) s.heap ad (Sy cy ad cn ck (va_up v w g) o) H locs := hE
  have hl : lv_has ls 4 [(3, .int (nI d)), (0, .ref (ad 4)), (1, .int (nI i)), (2, .ref (ad w))] := hl
  refine lv_iload_n hx hb dX3_reckon_2 rfl (lv_at hl 0 rfl) ?_
  refine lv_bipush (v := nI 16) hx hb dX3_reckon_3 (by decide) ?_
  refine mv_ge (tgt := 30) hx hb (by omega) (by omega) dX3_reckon_5 (by decide) (fun c3 => ?_) (fun c3 => ?_)
  · skip
    refine lv_bipush (v := nI 15) hx hb dX3_reckon_30 (by decide) ?_
    refine lv_istore_n (lv' := [(3, .int (nI 15)), (0, .ref (ad 4)), (1, .int (nI i)), (2, .ref (ad w))]) hx hb dX3_reckon_32 rfl hl (by decide) rfl (fun ls hl => ?_)
    refine mx_loop (β := Nat × (Nat → Nat → Int32)) (fun n9 (bb9 : Nat × (Nat → Nat → Int32)) H locs ls => (fun (z : Nat) (v9 : Nat → Nat → Int32) => n9 = z ∧ (∃ g : Nat → Int32, z ≤ 15 ∧ v9 = va_up v w g ∧ (∀ e, e < 16 → g (16 + e) = mLeaf (nI e) (f5 (16 * i + e))) ∧ ∀ q, z < q → q < 16 → g q = mJoin (g (2 * q)) (g (2 * q + 1)) (nI q)) ∧ mE G (mA ad (Sy cy ad cn ck v o) s.heap.size) s.heap ad (Sy cy ad cn ck v9 o) H locs ∧ lv_has ls 4 [(3, .int (nI z)), (0, .ref (ad 4)), (1, .int (nI i)), (2, .ref (ad w))]) (bb9.1) (bb9.2)) ?_ (15) (15, (va_up v w g)) _ _ _ ⟨rfl, ⟨g, by omega, rfl, fun e h => hlf e (by omega), fun q h1 h2 => by omega⟩, hE, lv_sub hl [0, 1, 2, 3] rfl⟩
    intro n9 bb9 H locs ls hI ih4
    obtain ⟨z, v9⟩ := bb9
    obtain ⟨hn5, ⟨g, hle, rfl, hlf, hjn⟩, hE, hl⟩ := hI
    have hE : mE G (mA ad (Sy cy ad cn ck v o) s.heap.size) s.heap ad (Sy cy ad cn ck (va_up v w g) o) H locs := hE
    have hl : lv_has ls 4 [(3, .int (nI z)), (0, .ref (ad 4)), (1, .int (nI i)), (2, .ref (ad w))] := hl
    refine lv_iload_n hx hb dX3_reckon_33 rfl (lv_at hl 0 rfl) ?_
    refine lv_if_le (tgt := 62) hx hb dX3_reckon_34 (by decide) (fun c6 => ?_) (fun c6 => ?_)
    · skip
      have c6 := (mz_le (by omega)).mp c6
      exact mx_vret hx hb hr hE hlocks ⟨g, rfl, hlf, fun q h1 h2 => hjn q (by omega) h2⟩ dX3_reckon_62
    · skip
      have c6 : ¬ z = 0 := fun h9 => c6 ((mz_le (by omega)).mpr h9)
      refine lv_aload_n hx hb dX3_reckon_37 rfl (lv_at hl 3 rfl) ?_
      refine lv_iload_n hx hb dX3_reckon_38 rfl (lv_at hl 0 rfl) ?_
      refine lv_aload_n hx hb dX3_reckon_39 rfl (lv_at hl 3 rfl) ?_
      refine lv_iconst (v := nI 2) hx hb dX3_reckon_40 (by decide) ?_
      refine lv_iload_n hx hb dX3_reckon_41 rfl (lv_at hl 0 rfl) ?_
      refine mv_imul (z := nI (2 * z)) hx hb (pk_mul _ _) dX3_reckon_42 ?_
      refine mx_iald hx hb hN hE (S_w hw (va_up_s v w g)) (j := 2 * z) rfl (by omega) (by decide) dX3_reckon_43 ?_
      refine lv_aload_n hx hb dX3_reckon_44 rfl (lv_at hl 3 rfl) ?_
      refine lv_iconst (v := nI 2) hx hb dX3_reckon_45 (by decide) ?_
      refine lv_iload_n hx hb dX3_reckon_46 rfl (lv_at hl 0 rfl) ?_
      refine mv_imul (z := nI (2 * z)) hx hb (pk_mul _ _) dX3_reckon_47 ?_
      refine lv_iconst (v := nI 1) hx hb dX3_reckon_48 (by decide) ?_
      refine mv_iadd (z := nI ((2 * z) + 1)) hx hb (nI_add _ _) dX3_reckon_49 ?_
      refine mx_iald hx hb hN hE (S_w hw (va_up_s v w g)) (j := (2 * z) + 1) rfl (by omega) (by decide) dX3_reckon_50 ?_
      refine lv_iload_n hx hb dX3_reckon_51 rfl (lv_at hl 0 rfl) ?_
      refine va_calli (va_runS (As := [.int (g (2 * z)), .int (g ((2 * z) + 1)), .int (nI z)]) (rest := [.int (nI z), .ref (ad w)]) ⟨hx, hb, hml, hown, hts⟩ (c_X3_join l G cy ad (Sy cy ad cn ck (va_up v w g) o) _ (g (2 * z)) (g ((2 * z) + 1)) (nI z)) (va_cwS 3 hts gX3_reckon_X3_join rfl rfl rfl (by decide +kernel) ⟨Nat.le_of_ble_eq_true rfl, Nat.le_of_ble_eq_true rfl⟩) (mP_S hN hE) rfl rfl hl.1 rfl (lv_room (Nat.le_of_ble_eq_true rfl)) dX3_reckon_52 ⟨Nat.le_of_ble_eq_true rfl, Nat.le_of_ble_eq_true rfl⟩) hE.2.2.2 (fun q _ h => mE_A hE q h) (mE_A hE) (fun r uq tq H locs ht hvm hw hB hz1 hk1 hS => ?_)
      obtain ⟨rfl, rfl⟩ := hw
      have hE : mE G (mA ad (Sy cy ad cn ck v o) s.heap.size) s.heap ad (Sy cy ad cn ck (va_up v w g) o) H locs := mE_call hE hB ht hS
      refine mx_iast hx hb hN hE (S_w hw (va_up_s v w g)) (j := z) rfl (by omega) (by decide) dX3_reckon_55 (fun H locs hE => ?_)
      obtain ⟨kv7, hkv7⟩ : ∃ y99, y99 = va_up (va_up v w g) w (upd (g) z (mJoin (g (2 * z)) (g ((2 * z) + 1)) (nI z))) := ⟨_, rfl⟩
      have hE : mE G (mA ad (Sy cy ad cn ck v o) s.heap.size) s.heap ad (Sy cy ad cn ck kv7 o) H locs := by rw [hkv7]; exact (S_up (hw _)) ▸ hE
      have ke8 : kv7 5 = f5 := by rw [hkv7, va_up_n _ _ (by first | exact hw4.symm | exact hw5.symm | omega)]; exact ((va_up_n v g hw5).trans h5)
      have ke9 : kv7 w = (upd (g) z (mJoin (g (2 * z)) (g ((2 * z) + 1)) (nI z))) := by rw [hkv7, va_up_s]
      have kf10 : kv7 4 0 = v 4 0 := by rw [hkv7, va_up_n _ _ (by omega)]; exact (congrFun (va_up_n v g hw4) 0)
      have kf11 : kv7 4 1 = nI n := by rw [hkv7, va_up_n _ _ (by omega)]; exact ((congrFun (va_up_n v g hw4) 1).trans hm1)
      have kf12 : kv7 4 2 = nI k := by rw [hkv7, va_up_n _ _ (by omega)]; exact ((congrFun (va_up_n v g hw4) 2).trans hm2)
      have kf13 : kv7 4 10 = v 4 10 := by rw [hkv7, va_up_n _ _ (by omega)]; exact (congrFun (va_up_n v g hw4) 10)
      refine lv_iinc (v := nI (z - 1)) (lv' := [(3, .int (nI (z - 1))), (0, .ref (ad 4)), (1, .int (nI i)), (2, .ref (ad w))]) hx hb dX3_reckon_56 hl (k := 0) rfl (by exact sb_m1 (by omega)) (by decide) rfl (fun ls hl => ?_)
      refine lv_goto (tgt := 33) hx hb dX3_reckon_59 (by decide) ?_
      exact ih4 (z - 1) (z - 1, kv7) _ _ _ (by rw [hn5]; omega) ⟨rfl, ⟨_, by omega, by rw [hkv7, va_upup], fun e h => by rw [upd_n _ _ (by omega)]; exact hlf e h, fun q h1 h2 => if h9 : q = z then by rw [h9, upd_s, upd_n _ _ (by omega), upd_n _ _ (by omega)] else by rw [upd_n _ _ h9, upd_n _ _ (by omega), upd_n _ _ (by omega)]; exact hjn q (by omega) h2⟩, hE, lv_sub hl [0, 1, 2, 3] rfl⟩
  · skip
    refine lv_aload_n hx hb dX3_reckon_8 rfl (lv_at hl 3 rfl) ?_
    refine lv_bipush (v := nI 16) hx hb dX3_reckon_9 (by decide) ?_
    refine lv_iload_n hx hb dX3_reckon_11 rfl (lv_at hl 0 rfl) ?_
    refine mv_iadd (z := nI (16 + d)) hx hb (nI_add _ _) dX3_reckon_12 ?_
    refine lv_iload_n hx hb dX3_reckon_13 rfl (lv_at hl 0 rfl) ?_
    refine lv_aload_n hx hb dX3_reckon_14 rfl (lv_at hl 1 rfl) ?_
    refine lv_iload_n hx hb dX3_reckon_15 rfl (lv_at hl 2 rfl) ?_
    refine lv_iload_n hx hb dX3_reckon_16 rfl (lv_at hl 0 rfl) ?_
    refine va_calli (va_runV (As := [.int (nI i), .int (nI d)]) (rest := [.int (nI d), .int (nI (16 + d)), .ref (ad w)]) ⟨hx, hb, hml, hown, hts⟩ (c_X3_th l G cy ad cn ck n k (va_up v w g) o hn hk _ ((congrFun (va_up_n v g hw4) 1).trans hm1) ((congrFun (va_up_n v g hw4) 2).trans hm2) i d h_i (by omega) ((va_up_n v g hw5).trans h5)) (cwV 2 hts gX3_reckon_X3_th rfl rfl rfl (by decide +kernel) ⟨Nat.le_of_ble_eq_true rfl, Nat.le_of_ble_eq_true rfl⟩) (mP_V (r := (RX3, TX3, 11)) hN hE (S_4f (congrFun (va_up_n v g hw4) 0) ((congrFun (va_up_n v g hw4) 1).trans hm1) ((congrFun (va_up_n v g hw4) 2).trans hm2) (congrFun (va_up_n v g hw4) 10)) rfl) rfl rfl hl.1 rfl (lv_room (Nat.le_of_ble_eq_true rfl)) dX3_reckon_17 ⟨Nat.le_of_ble_eq_true rfl, Nat.le_of_ble_eq_true rfl⟩) hE.2.2.2 (fun q _ h => mE_A hE q h) (mE_A hE) (fun r uq tq H locs ht hvm hw hB hz1 hk1 hS => ?_)
    obtain ⟨rfl, rfl⟩ := hw
    have hE : mE G (mA ad (Sy cy ad cn ck v o) s.heap.size) s.heap ad (Sy cy ad cn ck (va_up v w g) o) H locs := mE_call hE hB ht hS
    refine va_calli (va_runS (As := [.int (nI d), .int (f5 (16 * i + d))]) (rest := [.int (nI (16 + d)), .ref (ad w)]) ⟨hx, hb, hml, hown, hts⟩ (c_X3_leaf l G cy ad (Sy cy ad cn ck (va_up v w g) o) _ (nI d) (f5 (16 * i + d))) (va_cwS 2 hts gX3_reckon_X3_leaf rfl rfl rfl (by decide +kernel) ⟨Nat.le_of_ble_eq_true rfl, Nat.le_of_ble_eq_true rfl⟩) (mP_S hN hE) rfl rfl hl.1 rfl (lv_room (Nat.le_of_ble_eq_true rfl)) dX3_reckon_20 ⟨Nat.le_of_ble_eq_true rfl, Nat.le_of_ble_eq_true rfl⟩) hE.2.2.2 (fun q _ h => mE_A hE q h) (mE_A hE) (fun r uq tq H locs ht hvm hw hB hz1 hk1 hS => ?_)
    obtain ⟨rfl, rfl⟩ := hw
    have hE : mE G (mA ad (Sy cy ad cn ck v o) s.heap.size) s.heap ad (Sy cy ad cn ck (va_up v w g) o) H locs := mE_call hE hB ht hS
    refine mx_iast hx hb hN hE (S_w hw (va_up_s v w g)) (j := 16 + d) rfl (by omega) (by decide) dX3_reckon_23 (fun H locs hE => ?_)
    obtain ⟨kv14, hkv14⟩ : ∃ y99, y99 = va_up (va_up v w g) w (upd (g) (16 + d) (mLeaf (nI d) (f5 (16 * i + d)))) := ⟨_, rfl⟩
    have hE : mE G (mA ad (Sy cy ad cn ck v o) s.heap.size) s.heap ad (Sy cy ad cn ck kv14 o) H locs := by rw [hkv14]; exact (S_up (hw _)) ▸ hE
    have ke15 : kv14 5 = f5 := by rw [hkv14, va_up_n _ _ (by first | exact hw4.symm | exact hw5.symm | omega)]; exact ((va_up_n v g hw5).trans h5)
    have ke16 : kv14 w = (upd (g) (16 + d) (mLeaf (nI d) (f5 (16 * i + d)))) := by rw [hkv14, va_up_s]
    have kf17 : kv14 4 0 = v 4 0 := by rw [hkv14, va_up_n _ _ (by omega)]; exact (congrFun (va_up_n v g hw4) 0)
    have kf18 : kv14 4 1 = nI n := by rw [hkv14, va_up_n _ _ (by omega)]; exact ((congrFun (va_up_n v g hw4) 1).trans hm1)
    have kf19 : kv14 4 2 = nI k := by rw [hkv14, va_up_n _ _ (by omega)]; exact ((congrFun (va_up_n v g hw4) 2).trans hm2)
    have kf20 : kv14 4 10 = v 4 10 := by rw [hkv14, va_up_n _ _ (by omega)]; exact (congrFun (va_up_n v g hw4) 10)
    refine lv_iinc (v := nI (d + 1)) (lv' := [(3, .int (nI (d + 1))), (0, .ref (ad 4)), (1, .int (nI i)), (2, .ref (ad w))]) hx hb dX3_reckon_24 hl (k := 0) rfl (nI_add _ _) (by decide) rfl (fun ls hl => ?_)
    refine lv_goto (tgt := 2) hx hb dX3_reckon_27 (by decide) ?_
    exact ih1 (16 - (d + 1)) (d + 1, kv14) _ _ _ (by rw [hn2]; omega) ⟨rfl, ⟨_, by omega, by rw [hkv14, va_upup], fun e h => if h9 : e = d then by rw [h9, upd_s] else by rw [upd_n _ _ (by omega)]; exact hlf e (by omega)⟩, hE, lv_sub hl [0, 1, 2, 3] rfl⟩

set_option maxHeartbeats 4000000 in
set_option maxRecDepth 100000 in
/-- root -/
theorem c_X3_root (l : Launch) (G : va_G) (cy : Nat → ClassId) (ad : Nat → Nat) (cn ck n k : Nat) (v : Nat → Nat → Int32) (o : Nat → Int64) (hn : n ≤ 6) (hk : k ≤ 20) (sz : Nat) (hm1 : v 4 1 = nI n) (hm2 : v 4 2 = nI k) (i : Nat) (h_i : i < n) {f5 : Nat → Int32} (h5 : v 5 = f5) : mMi l yX3_root wsX3_root ({ frames := 9, cells := 0, slots := 0, locals := 180 }) G cy ad (Sy cy ad cn ck v o) sz [.ref (ad 4), .int (nI i)] 0 0 (fun (r : Int32) u => r = mS (fun d => f5 (16 * i + d)) 1 ∧ ∃ v' : Nat → Nat → Int32, u = (ad, Sy cy ad cn ck v' o) ∧ mQT v v' (v 4 0)) := by
  refine Met.ofW (cc := cX3_root) (maxL := 2) (ret := (some .int)) (by decide) rfl ?_
  intro p e s m args below meth c s₁ B hml hv
  obtain ⟨rfl, hv⟩ := hv
  have hsz := hv.1
  subst hsz
  have hN := hv.2.2
  have hE := mP_E hv
  have hx := B.exec
  have hb := B.bytes
  have hr := B.returns
  have hts := atoms_spec (ws := wsX3_root) B.pre
  have hown : s.vm.findClass RX3 = some m.cls := findClass_of_methodNamed B.named
  have hlocks := B.notSynchronized
  have hiX3 : ∀ w ∈ wsX30, w ∈ wsX3_root := by decide +kernel
  have hl := lv_entry ([.ref (ad 4), .int (nI i)]) (n := 2) (Nat.le_of_ble_eq_true rfl)
  rw [lg_entry_eq]
  generalize (lg_sl ([.ref (ad 4), .int (nI i)]) ++ List.replicate (2 - (lg_sl ([.ref (ad 4), .int (nI i)])).length) Slot.unset).toArray = ls at hl ⊢
  have hl : lv_has ls 2 [(0, .ref (ad 4)), (1, .int (nI i))] := hl
  refine lv_aload_n hx hb dX3_root_0 rfl (lv_at hl 0 rfl) ?_
  refine lv_iload_n hx hb dX3_root_1 rfl (lv_at hl 1 rfl) ?_
  refine lv_aload_n hx hb dX3_root_2 rfl (lv_at hl 0 rfl) ?_
  refine va_get (D := G) (ci := 3) (v := .ref (ad 10)) (C := RX3) (T := TX3) (N := 11) hx hb hts hiX3 hown hN.1 (mE_P1 hE (S_4f rfl hm1 hm2 rfl)) 0 rfl rfl 8 (by decide) (hts (.fieldLink RX3 25 "SealedCupboardsModel" "sums" "[I") (by decide +kernel)) (fun _ h9 => h9) rfl dX3_root_3 ?_
  refine va_callv (va_runV (As := [.int (nI i), .ref (ad 10)]) (rest := []) ⟨hx, hb, hml, hown, hts⟩ (c_X3_reckon l G cy ad cn ck n k v o hn hk _ hm1 hm2 i 10 h_i (fun g => sy_10) (by decide) (by decide) h5) (cwV 2 hts gX3_root_X3_reckon rfl rfl rfl (by decide +kernel) ⟨Nat.le_of_ble_eq_true rfl, Nat.le_of_ble_eq_true rfl⟩) (mP_V (r := (RX3, TX3, 11)) hN hE (S_4f rfl hm1 hm2 rfl) rfl) rfl rfl hl.1 rfl (lv_room (Nat.le_of_ble_eq_true rfl)) dX3_root_6 ⟨Nat.le_of_ble_eq_true rfl, Nat.le_of_ble_eq_true rfl⟩) hE.2.2.2 (fun q _ h => mE_A hE q h) (mE_A hE) (fun uq tq H locs ht hvm hw hB hz1 hk1 hS => ?_)
  obtain ⟨kg1, rfl, kq2⟩ := hw
  have hE : mE G (mA ad (Sy cy ad cn ck v o) s.heap.size) s.heap ad (Sy cy ad cn ck (va_up v 10 kg1) o) H locs := mE_call hE hB ht hS
  obtain ⟨kv3, hkv3⟩ : ∃ y99, y99 = va_up v 10 kg1 := ⟨_, rfl⟩
  have hE : mE G (mA ad (Sy cy ad cn ck v o) s.heap.size) s.heap ad (Sy cy ad cn ck kv3 o) H locs := by rw [hkv3]; exact hE
  have ke4 : kv3 5 = f5 := by rw [hkv3, va_up_n _ _ (by omega)]; exact h5
  have ke5 : kv3 10 = kg1 := by rw [hkv3, va_up_s]
  have kf6 : kv3 4 0 = v 4 0 := by rw [hkv3, va_up_n _ _ (by omega)]
  have kf7 : kv3 4 1 = nI n := by rw [hkv3, va_up_n _ _ (by omega)]; exact hm1
  have kf8 : kv3 4 2 = nI k := by rw [hkv3, va_up_n _ _ (by omega)]; exact hm2
  have kf9 : kv3 4 10 = v 4 10 := by rw [hkv3, va_up_n _ _ (by omega)]
  refine lv_aload_n hx hb dX3_root_9 rfl (lv_at hl 0 rfl) ?_
  refine va_get (D := G) (ci := 3) (v := .ref (ad 10)) (C := RX3) (T := TX3) (N := 11) hx hb hts hiX3 hown hN.1 (mE_P1 hE (S_4f kf6 kf7 kf8 kf9)) 0 rfl rfl 8 (by decide) (hts (.fieldLink RX3 25 "SealedCupboardsModel" "sums" "[I") (by decide +kernel)) (fun _ h9 => h9) rfl dX3_root_10 ?_
  refine lv_iconst (v := nI 1) hx hb dX3_root_13 (by decide) ?_
  refine mx_iald hx hb hN hE (S_10e ke5) (j := 1) rfl (by omega) (by decide) dX3_root_14 ?_
  exact mx_iret hx hb hr hE hlocks ⟨mCon_S kq2 1 (by decide) (by decide), ⟨kv3, rfl, fun w h4 h10 h11 => (show kv3 w = v w by rw [hkv3, va_up_n _ _ h10]), kf6, (kf7.trans hm1.symm), (kf8.trans hm2.symm)⟩⟩ dX3_root_15

set_option maxHeartbeats 4000000 in
set_option maxRecDepth 100000 in
/-- lay -/
theorem c_X3_lay (l : Launch) (G : va_G) (cy : Nat → ClassId) (ad : Nat → Nat) (cn ck n k : Nat) (v : Nat → Nat → Int32) (o : Nat → Int64) (hn : n ≤ 6) (hk : k ≤ 20) (sz : Nat) (hm1 : v 4 1 = nI n) (hm2 : v 4 2 = nI k) (i d : Nat) (t9 : Int32) (h_i : i < n) (hd : d < 16) {f5 : Nat → Int32} (h5 : v 5 = f5) {f6 : Nat → Int32} (h6 : v 6 = f6) : mMi l yX3_lay wsX3_lay ({ frames := 8, cells := 0, slots := 0, locals := 140 }) G cy ad (Sy cy ad cn ck v o) sz [.ref (ad 4), .int (nI i), .int (nI d), .int t9] 0 0 (fun (r : Int32) u => r = mb (¬ f5 (16 * i + d) = t9) ∧ ∃ v' : Nat → Nat → Int32, u = (ad, Sy cy ad cn ck v' o) ∧ mQM v v' (v 4 0) (upd f5 (16 * i + d) t9) (mL6 f5 f6 i d t9)) := by
  refine Met.ofW (cc := cX3_lay) (maxL := 4) (ret := (some .boolean)) (by decide) rfl ?_
  intro p e s m args below meth c s₁ B hml hv
  obtain ⟨rfl, hv⟩ := hv
  have hsz := hv.1
  subst hsz
  have hN := hv.2.2
  have hE := mP_E hv
  have hx := B.exec
  have hb := B.bytes
  have hr := B.returns
  have hts := atoms_spec (ws := wsX3_lay) B.pre
  have hown : s.vm.findClass RX3 = some m.cls := findClass_of_methodNamed B.named
  have hlocks := B.notSynchronized
  have hiX3 : ∀ w ∈ wsX30, w ∈ wsX3_lay := by decide +kernel
  have hl := lv_entry ([.ref (ad 4), .int (nI i), .int (nI d), .int t9]) (n := 4) (Nat.le_of_ble_eq_true rfl)
  rw [lg_entry_eq]
  generalize (lg_sl ([.ref (ad 4), .int (nI i), .int (nI d), .int t9]) ++ List.replicate (4 - (lg_sl ([.ref (ad 4), .int (nI i), .int (nI d), .int t9])).length) Slot.unset).toArray = ls at hl ⊢
  have hl : lv_has ls 4 [(0, .ref (ad 4)), (1, .int (nI i)), (2, .int (nI d)), (3, .int t9)] := hl
  refine lv_aload_n hx hb dX3_lay_0 rfl (lv_at hl 0 rfl) ?_
  refine lv_iload_n hx hb dX3_lay_1 rfl (lv_at hl 1 rfl) ?_
  refine lv_iload_n hx hb dX3_lay_2 rfl (lv_at hl 2 rfl) ?_
  refine va_calli (va_runV (As := [.int (nI i), .int (nI d)]) (rest := []) ⟨hx, hb, hml, hown, hts⟩ (c_X3_th l G cy ad cn ck n k v o hn hk _ hm1 hm2 i d h_i (by omega) h5) (cwV 2 hts gX3_lay_X3_th rfl rfl rfl (by decide +kernel) ⟨Nat.le_of_ble_eq_true rfl, Nat.le_of_ble_eq_true rfl⟩) (mP_V (r := (RX3, TX3, 11)) hN hE (S_4f rfl hm1 hm2 rfl) rfl) rfl rfl hl.1 rfl (lv_room (Nat.le_of_ble_eq_true rfl)) dX3_lay_3 ⟨Nat.le_of_ble_eq_true rfl, Nat.le_of_ble_eq_true rfl⟩) hE.2.2.2 (fun q _ h => mE_A hE q h) (mE_A hE) (fun r uq tq H locs ht hvm hw hB hz1 hk1 hS => ?_)
  obtain ⟨rfl, rfl⟩ := hw
  have hE : mE G (mA ad (Sy cy ad cn ck v o) s.heap.size) s.heap ad (Sy cy ad cn ck v o) H locs := mE_call hE hB ht hS
  refine lv_iload_n hx hb dX3_lay_6 rfl (lv_at hl 3 rfl) ?_
  refine lv_icmp_ne (tgt := 12) hx hb dX3_lay_7 (by decide) (fun c1 => ?_) (fun c1 => ?_)
  · skip
    refine lv_aload_n hx hb dX3_lay_12 rfl (lv_at hl 0 rfl) ?_
    refine va_get (D := G) (ci := 3) (v := .ref (ad 5)) (C := RX3) (T := TX3) (N := 11) hx hb hts hiX3 hown hN.1 (mE_P1 hE (S_4f rfl hm1 hm2 rfl)) 0 rfl rfl 3 (by decide) (hts (.fieldLink RX3 9 "SealedCupboardsModel" "things" "[I") (by decide +kernel)) (fun _ h9 => h9) rfl dX3_lay_13 ?_
    refine lv_bipush (v := nI 16) hx hb dX3_lay_16 (by decide) ?_
    refine lv_iload_n hx hb dX3_lay_18 rfl (lv_at hl 1 rfl) ?_
    refine mv_imul (z := nI (16 * i)) hx hb (pk_mul _ _) dX3_lay_19 ?_
    refine lv_iload_n hx hb dX3_lay_20 rfl (lv_at hl 2 rfl) ?_
    refine mv_iadd (z := nI ((16 * i) + d)) hx hb (nI_add _ _) dX3_lay_21 ?_
    refine lv_iload_n hx hb dX3_lay_22 rfl (lv_at hl 3 rfl) ?_
    refine mx_iast hx hb hN hE (S_5e h5) (j := (16 * i) + d) rfl (by omega) (by decide) dX3_lay_23 (fun H locs hE => ?_)
    obtain ⟨kv2, hkv2⟩ : ∃ y99, y99 = va_up v 5 (upd (f5) ((16 * i) + d) t9) := ⟨_, rfl⟩
    have hE : mE G (mA ad (Sy cy ad cn ck v o) s.heap.size) s.heap ad (Sy cy ad cn ck kv2 o) H locs := by rw [hkv2]; exact (S_up sy_5) ▸ hE
    have ke3 : kv2 6 = f6 := by rw [hkv2, va_up_n _ _ (by omega)]; exact h6
    have ke4 : kv2 5 = (upd (f5) ((16 * i) + d) t9) := by rw [hkv2, va_up_s]
    have kf5 : kv2 4 0 = v 4 0 := by rw [hkv2, va_up_n _ _ (by omega)]
    have kf6 : kv2 4 1 = nI n := by rw [hkv2, va_up_n _ _ (by omega)]; exact hm1
    have kf7 : kv2 4 2 = nI k := by rw [hkv2, va_up_n _ _ (by omega)]; exact hm2
    have kf8 : kv2 4 10 = v 4 10 := by rw [hkv2, va_up_n _ _ (by omega)]
    refine lv_aload_n hx hb dX3_lay_24 rfl (lv_at hl 0 rfl) ?_
    refine va_get (D := G) (ci := 3) (v := .ref (ad 6)) (C := RX3) (T := TX3) (N := 11) hx hb hts hiX3 hown hN.1 (mE_P1 hE (S_4f kf5 kf6 kf7 kf8)) 0 rfl rfl 4 (by decide) (hts (.fieldLink RX3 13 "SealedCupboardsModel" "changes" "[I") (by decide +kernel)) (fun _ h9 => h9) rfl dX3_lay_25 ?_
    refine lv_iload_n hx hb dX3_lay_28 rfl (lv_at hl 1 rfl) ?_
    refine lv_dup2_11 hx hb dX3_lay_29 rfl rfl ?_
    refine mx_iald hx hb hN hE (S_6e ke3) (j := i) rfl (by omega) (by decide) dX3_lay_30 ?_
    refine lv_iconst (v := nI 1) hx hb dX3_lay_31 (by decide) ?_
    refine mv_iadd (z := (f6 i) + (nI 1)) hx hb rfl dX3_lay_32 ?_
    refine mx_iast hx hb hN hE (S_6e ke3) (j := i) rfl (by omega) (by decide) dX3_lay_33 (fun H locs hE => ?_)
    obtain ⟨kv9, hkv9⟩ : ∃ y99, y99 = va_up kv2 6 (upd (f6) i ((f6 i) + (nI 1))) := ⟨_, rfl⟩
    have hE : mE G (mA ad (Sy cy ad cn ck v o) s.heap.size) s.heap ad (Sy cy ad cn ck kv9 o) H locs := by rw [hkv9]; exact (S_up sy_6) ▸ hE
    have ke10 : kv9 5 = (upd (f5) ((16 * i) + d) t9) := by rw [hkv9, va_up_n _ _ (by omega)]; exact ke4
    have ke11 : kv9 6 = (upd (f6) i ((f6 i) + (nI 1))) := by rw [hkv9, va_up_s]
    have kf12 : kv9 4 0 = v 4 0 := by rw [hkv9, va_up_n _ _ (by omega)]; exact kf5
    have kf13 : kv9 4 1 = nI n := by rw [hkv9, va_up_n _ _ (by omega)]; exact kf6
    have kf14 : kv9 4 2 = nI k := by rw [hkv9, va_up_n _ _ (by omega)]; exact kf7
    have kf15 : kv9 4 10 = v 4 10 := by rw [hkv9, va_up_n _ _ (by omega)]; exact kf8
    refine lv_iconst (v := nI 1) hx hb dX3_lay_34 (by decide) ?_
    exact mx_zret hx hb hr rfl hE hlocks ⟨(mb_t c1).symm, ⟨kv9, rfl, fun w h4 h5w h6w h10 h11 => ((show kv9 w = kv2 w by rw [hkv9, va_up_n _ _ h6w]).trans (show kv2 w = v w by rw [hkv2, va_up_n _ _ h5w])), kf12, (kf13.trans hm1.symm), (kf14.trans hm2.symm), ke10, (ke11.trans (if_neg c1).symm)⟩⟩ dX3_lay_35
  · skip
    refine lv_iconst (v := nI 0) hx hb dX3_lay_10 (by decide) ?_
    exact mx_zret hx hb hr rfl hE hlocks ⟨(mb_f (fun h9 => h9 c1)).symm, ⟨v, rfl, fun w h4 h5w h6w h10 h11 => rfl, rfl, rfl, rfl, (h5.trans (by rw [← c1, upd_id])), (h6.trans (if_pos c1).symm)⟩⟩ dX3_lay_11

set_option maxHeartbeats 4000000 in
set_option maxRecDepth 100000 in
/-- exchange -/
theorem c_X3_exchange (l : Launch) (G : va_G) (cy : Nat → ClassId) (ad : Nat → Nat) (cn ck n k : Nat) (v : Nat → Nat → Int32) (o : Nat → Int64) (hn : n ≤ 6) (hk : k ≤ 20) (sz : Nat) (hm1 : v 4 1 = nI n) (hm2 : v 4 2 = nI k) (i a b9 : Nat) (h_i : i < n) (ha : a < 16) (hb9 : b9 < 16) {f5 : Nat → Int32} (h5 : v 5 = f5) : mMv l yX3_exchange wsX3_exchange ({ frames := 8, cells := 0, slots := 0, locals := 140 }) G cy ad (Sy cy ad cn ck v o) sz [.ref (ad 4), .int (nI i), .int (nI a), .int (nI b9)] 0 0 (fun u => u = (ad, Sy cy ad cn ck (va_up v 5 (mX5 f5 i a b9)) o)) := by
  refine Met.ofW (cc := cX3_exchange) (maxL := 5) (ret := none) (by decide) rfl ?_
  intro p e s m args below meth c s₁ B hml hv
  obtain ⟨rfl, hv⟩ := hv
  have hsz := hv.1
  subst hsz
  have hN := hv.2.2
  have hE := mP_E hv
  have hx := B.exec
  have hb := B.bytes
  have hr := B.returns
  have hts := atoms_spec (ws := wsX3_exchange) B.pre
  have hown : s.vm.findClass RX3 = some m.cls := findClass_of_methodNamed B.named
  have hlocks := B.notSynchronized
  have hiX3 : ∀ w ∈ wsX30, w ∈ wsX3_exchange := by decide +kernel
  have hl := lv_entry ([.ref (ad 4), .int (nI i), .int (nI a), .int (nI b9)]) (n := 5) (Nat.le_of_ble_eq_true rfl)
  rw [lg_entry_eq]
  generalize (lg_sl ([.ref (ad 4), .int (nI i), .int (nI a), .int (nI b9)]) ++ List.replicate (5 - (lg_sl ([.ref (ad 4), .int (nI i), .int (nI a), .int (nI b9)])).length) Slot.unset).toArray = ls at hl ⊢
  have hl : lv_has ls 5 [(0, .ref (ad 4)), (1, .int (nI i)), (2, .int (nI a)), (3, .int (nI b9))] := hl
  refine lv_aload_n hx hb dX3_exchange_0 rfl (lv_at hl 0 rfl) ?_
  refine lv_iload_n hx hb dX3_exchange_1 rfl (lv_at hl 1 rfl) ?_
  refine lv_iload_n hx hb dX3_exchange_2 rfl (lv_at hl 2 rfl) ?_
  refine va_calli (va_runV (As := [.int (nI i), .int (nI a)]) (rest := []) ⟨hx, hb, hml, hown, hts⟩ (c_X3_th l G cy ad cn ck n k v o hn hk _ hm1 hm2 i a h_i (by omega) h5) (cwV 2 hts gX3_exchange_X3_th rfl rfl rfl (by decide +kernel) ⟨Nat.le_of_ble_eq_true rfl, Nat.le_of_ble_eq_true rfl⟩) (mP_V (r := (RX3, TX3, 11)) hN hE (S_4f rfl hm1 hm2 rfl) rfl) rfl rfl hl.1 rfl (lv_room (Nat.le_of_ble_eq_true rfl)) dX3_exchange_3 ⟨Nat.le_of_ble_eq_true rfl, Nat.le_of_ble_eq_true rfl⟩) hE.2.2.2 (fun q _ h => mE_A hE q h) (mE_A hE) (fun r uq tq H locs ht hvm hw hB hz1 hk1 hS => ?_)
  obtain ⟨rfl, rfl⟩ := hw
  have hE : mE G (mA ad (Sy cy ad cn ck v o) s.heap.size) s.heap ad (Sy cy ad cn ck v o) H locs := mE_call hE hB ht hS
  refine lv_istore (lv' := [(4, .int (f5 (16 * i + a))), (0, .ref (ad 4)), (1, .int (nI i)), (2, .int (nI a)), (3, .int (nI b9))]) hx hb dX3_exchange_6 hl (by decide) rfl (fun ls hl => ?_)
  refine lv_aload_n hx hb dX3_exchange_8 rfl (lv_at hl 1 rfl) ?_
  refine va_get (D := G) (ci := 3) (v := .ref (ad 5)) (C := RX3) (T := TX3) (N := 11) hx hb hts hiX3 hown hN.1 (mE_P1 hE (S_4f rfl hm1 hm2 rfl)) 0 rfl rfl 3 (by decide) (hts (.fieldLink RX3 9 "SealedCupboardsModel" "things" "[I") (by decide +kernel)) (fun _ h9 => h9) rfl dX3_exchange_9 ?_
  refine lv_bipush (v := nI 16) hx hb dX3_exchange_12 (by decide) ?_
  refine lv_iload_n hx hb dX3_exchange_14 rfl (lv_at hl 2 rfl) ?_
  refine mv_imul (z := nI (16 * i)) hx hb (pk_mul _ _) dX3_exchange_15 ?_
  refine lv_iload_n hx hb dX3_exchange_16 rfl (lv_at hl 3 rfl) ?_
  refine mv_iadd (z := nI ((16 * i) + a)) hx hb (nI_add _ _) dX3_exchange_17 ?_
  refine lv_aload_n hx hb dX3_exchange_18 rfl (lv_at hl 1 rfl) ?_
  refine lv_iload_n hx hb dX3_exchange_19 rfl (lv_at hl 2 rfl) ?_
  refine lv_iload_n hx hb dX3_exchange_20 rfl (lv_at hl 4 rfl) ?_
  refine va_calli (va_runV (As := [.int (nI i), .int (nI b9)]) (rest := [.int (nI ((16 * i) + a)), .ref (ad 5)]) ⟨hx, hb, hml, hown, hts⟩ (c_X3_th l G cy ad cn ck n k v o hn hk _ hm1 hm2 i b9 h_i (by omega) h5) (cwV 2 hts gX3_exchange_X3_th rfl rfl rfl (by decide +kernel) ⟨Nat.le_of_ble_eq_true rfl, Nat.le_of_ble_eq_true rfl⟩) (mP_V (r := (RX3, TX3, 11)) hN hE (S_4f rfl hm1 hm2 rfl) rfl) rfl rfl hl.1 rfl (lv_room (Nat.le_of_ble_eq_true rfl)) dX3_exchange_21 ⟨Nat.le_of_ble_eq_true rfl, Nat.le_of_ble_eq_true rfl⟩) hE.2.2.2 (fun q _ h => mE_A hE q h) (mE_A hE) (fun r uq tq H locs ht hvm hw hB hz1 hk1 hS => ?_)
  obtain ⟨rfl, rfl⟩ := hw
  have hE : mE G (mA ad (Sy cy ad cn ck v o) s.heap.size) s.heap ad (Sy cy ad cn ck v o) H locs := mE_call hE hB ht hS
  refine mx_iast hx hb hN hE (S_5e h5) (j := (16 * i) + a) rfl (by omega) (by decide) dX3_exchange_24 (fun H locs hE => ?_)
  obtain ⟨kv1, hkv1⟩ : ∃ y99, y99 = va_up v 5 (upd (f5) ((16 * i) + a) (f5 (16 * i + b9))) := ⟨_, rfl⟩
  have hE : mE G (mA ad (Sy cy ad cn ck v o) s.heap.size) s.heap ad (Sy cy ad cn ck kv1 o) H locs := by rw [hkv1]; exact (S_up sy_5) ▸ hE
  have ke2 : kv1 5 = (upd (f5) ((16 * i) + a) (f5 (16 * i + b9))) := by rw [hkv1, va_up_s]
  have kf3 : kv1 4 0 = v 4 0 := by rw [hkv1, va_up_n _ _ (by omega)]
  have kf4 : kv1 4 1 = nI n := by rw [hkv1, va_up_n _ _ (by omega)]; exact hm1
  have kf5 : kv1 4 2 = nI k := by rw [hkv1, va_up_n _ _ (by omega)]; exact hm2
  have kf6 : kv1 4 10 = v 4 10 := by rw [hkv1, va_up_n _ _ (by omega)]
  refine lv_aload_n hx hb dX3_exchange_25 rfl (lv_at hl 1 rfl) ?_
  refine va_get (D := G) (ci := 3) (v := .ref (ad 5)) (C := RX3) (T := TX3) (N := 11) hx hb hts hiX3 hown hN.1 (mE_P1 hE (S_4f kf3 kf4 kf5 kf6)) 0 rfl rfl 3 (by decide) (hts (.fieldLink RX3 9 "SealedCupboardsModel" "things" "[I") (by decide +kernel)) (fun _ h9 => h9) rfl dX3_exchange_26 ?_
  refine lv_bipush (v := nI 16) hx hb dX3_exchange_29 (by decide) ?_
  refine lv_iload_n hx hb dX3_exchange_31 rfl (lv_at hl 2 rfl) ?_
  refine mv_imul (z := nI (16 * i)) hx hb (pk_mul _ _) dX3_exchange_32 ?_
  refine lv_iload_n hx hb dX3_exchange_33 rfl (lv_at hl 4 rfl) ?_
  refine mv_iadd (z := nI ((16 * i) + b9)) hx hb (nI_add _ _) dX3_exchange_34 ?_
  refine lv_iload hx hb dX3_exchange_35 (lv_at hl 0 rfl) ?_
  refine mx_iast hx hb hN hE (S_5e ke2) (j := (16 * i) + b9) rfl (by omega) (by decide) dX3_exchange_37 (fun H locs hE => ?_)
  obtain ⟨kv7, hkv7⟩ : ∃ y99, y99 = va_up kv1 5 (upd ((upd (f5) ((16 * i) + a) (f5 (16 * i + b9)))) ((16 * i) + b9) (f5 (16 * i + a))) := ⟨_, rfl⟩
  have hE : mE G (mA ad (Sy cy ad cn ck v o) s.heap.size) s.heap ad (Sy cy ad cn ck kv7 o) H locs := by rw [hkv7]; exact (S_up sy_5) ▸ hE
  have ke8 : kv7 5 = (upd ((upd (f5) ((16 * i) + a) (f5 (16 * i + b9)))) ((16 * i) + b9) (f5 (16 * i + a))) := by rw [hkv7, va_up_s]
  have kf9 : kv7 4 0 = v 4 0 := by rw [hkv7, va_up_n _ _ (by omega)]; exact kf3
  have kf10 : kv7 4 1 = nI n := by rw [hkv7, va_up_n _ _ (by omega)]; exact kf4
  have kf11 : kv7 4 2 = nI k := by rw [hkv7, va_up_n _ _ (by omega)]; exact kf5
  have kf12 : kv7 4 10 = v 4 10 := by rw [hkv7, va_up_n _ _ (by omega)]; exact kf6
  exact mx_vret hx hb hr hE hlocks (by rw [hkv7, hkv1, va_upup]; rfl) dX3_exchange_38

set_option maxHeartbeats 4000000 in
set_option maxRecDepth 100000 in
/-- compare at height 0 -/
theorem c_X3_compare0 (l : Launch) (G : va_G) (cy : Nat → ClassId) (ad : Nat → Nat) (cn ck n k : Nat) (v : Nat → Nat → Int32) (o : Nat → Int64) (hn : n ≤ 6) (hk : k ≤ 20) (sz : Nat) (hm1 : v 4 1 = nI n) (hm2 : v 4 2 = nI k) (q : Nat) (hq1 : 16 ≤ q) (hq2 : q < 32) {f10 : Nat → Int32} (h10 : v 10 = f10) {f11 : Nat → Int32} (h11 : v 11 = f11) : mMi l yX3_compare wsX3_compare ({ frames := 7, cells := 0, slots := 0, locals := 100 }) G cy ad (Sy cy ad cn ck v o) sz [.ref (ad 4), .int (nI q)] 0 0 (fun (r : Int32) u => r = nI (mCm f10 f11 0 q) ∧ ∃ v' : Nat → Nat → Int32, u = (ad, Sy cy ad cn ck v' o) ∧ mQL v v' (mCl f10 f11 0 q)) := by
  refine Met.ofW (cc := cX3_compare) (maxL := 2) (ret := (some .int)) (by decide) rfl ?_
  intro p e s m args below meth c s₁ B hml hv
  obtain ⟨rfl, hv⟩ := hv
  have hsz := hv.1
  subst hsz
  have hN := hv.2.2
  have hE := mP_E hv
  have hx := B.exec
  have hb := B.bytes
  have hr := B.returns
  have hts := atoms_spec (ws := wsX3_compare) B.pre
  have hown : s.vm.findClass RX3 = some m.cls := findClass_of_methodNamed B.named
  have hlocks := B.notSynchronized
  have hiX3 : ∀ w ∈ wsX30, w ∈ wsX3_compare := by decide +kernel
  have hl := lv_entry ([.ref (ad 4), .int (nI q)]) (n := 2) (Nat.le_of_ble_eq_true rfl)
  rw [lg_entry_eq]
  generalize (lg_sl ([.ref (ad 4), .int (nI q)]) ++ List.replicate (2 - (lg_sl ([.ref (ad 4), .int (nI q)])).length) Slot.unset).toArray = ls at hl ⊢
  have hl : lv_has ls 2 [(0, .ref (ad 4)), (1, .int (nI q))] := hl
  refine lv_aload_n hx hb dX3_compare_0 rfl (lv_at hl 0 rfl) ?_
  refine lv_dup hx hb dX3_compare_1 rfl ?_
  refine va_get (D := G) (ci := 3) (v := .int (v 4 10)) (C := RX3) (T := TX3) (N := 11) hx hb hts hiX3 hown hN.1 (mE_P1 hE (S_4f rfl hm1 hm2 rfl)) 0 rfl rfl 10 (by decide) (hts (.fieldLink RX3 100 "SealedCupboardsModel" "looked" "I") (by decide +kernel)) (fun _ h9 => h9) rfl dX3_compare_2 ?_
  refine lv_iconst (v := nI 1) hx hb dX3_compare_5 (by decide) ?_
  refine mv_iadd (z := (v 4 10) + (nI 1)) hx hb rfl dX3_compare_6 ?_
  refine mx_put (ci := 3) (v := .int ((v 4 10) + (nI 1))) (ty := .int) (C := RX3) (T := TX3) (N := 11) hx hb hts hiX3 tyX3 tyX3_ok nmX3 hown hN hE (S_4f rfl hm1 hm2 rfl) rfl 10 (by decide) (hts (.fieldLink RX3 100 "SealedCupboardsModel" "looked" "I") (by decide +kernel)) (fun _ h9 => h9) rfl (by decide +kernel) rfl rfl (Nat.le_of_ble_eq_true rfl) dX3_compare_7 (fun H locs hE => ?_)
  obtain ⟨kv1, hkv1⟩ : ∃ y99, y99 = va_up v 4 (upd (v 4) 10 ((v 4 10) + (nI 1))) := ⟨_, rfl⟩
  have hE : mE G (mA ad (Sy cy ad cn ck v o) s.heap.size) s.heap ad (Sy cy ad cn ck kv1 o) H locs := by rw [hkv1]; exact (S_4u ((upd_n _ _ (by decide)).trans rfl) ((upd_n _ _ (by decide)).trans hm1) ((upd_n _ _ (by decide)).trans hm2) (upd_s _ _ _)) ▸ hE
  have kf2 : kv1 4 0 = v 4 0 := by rw [hkv1, va_up_s, upd_n _ _ (by decide)]
  have kf3 : kv1 4 1 = nI n := by rw [hkv1, va_up_s, upd_n _ _ (by decide)]; exact hm1
  have kf4 : kv1 4 2 = nI k := by rw [hkv1, va_up_s, upd_n _ _ (by decide)]; exact hm2
  have kf5 : kv1 4 10 = (v 4 10) + (nI 1) := by rw [hkv1, va_up_s, upd_s]
  have ke6 : kv1 10 = f10 := by rw [hkv1, va_up_n _ _ (by omega)]; exact h10
  have ke7 : kv1 11 = f11 := by rw [hkv1, va_up_n _ _ (by omega)]; exact h11
  refine lv_aload_n hx hb dX3_compare_10 rfl (lv_at hl 0 rfl) ?_
  refine va_get (D := G) (ci := 3) (v := .ref (ad 10)) (C := RX3) (T := TX3) (N := 11) hx hb hts hiX3 hown hN.1 (mE_P1 hE (S_4f kf2 kf3 kf4 kf5)) 0 rfl rfl 8 (by decide) (hts (.fieldLink RX3 25 "SealedCupboardsModel" "sums" "[I") (by decide +kernel)) (fun _ h9 => h9) rfl dX3_compare_11 ?_
  refine lv_iload_n hx hb dX3_compare_14 rfl (lv_at hl 1 rfl) ?_
  refine mx_iald hx hb hN hE (S_10e ke6) (j := q) rfl (by omega) (by decide) dX3_compare_15 ?_
  refine lv_aload_n hx hb dX3_compare_16 rfl (lv_at hl 0 rfl) ?_
  refine va_get (D := G) (ci := 3) (v := .ref (ad 11)) (C := RX3) (T := TX3) (N := 11) hx hb hts hiX3 hown hN.1 (mE_P1 hE (S_4f kf2 kf3 kf4 kf5)) 0 rfl rfl 9 (by decide) (hts (.fieldLink RX3 28 "SealedCupboardsModel" "others" "[I") (by decide +kernel)) (fun _ h9 => h9) rfl dX3_compare_17 ?_
  refine lv_iload_n hx hb dX3_compare_20 rfl (lv_at hl 1 rfl) ?_
  refine mx_iald hx hb hN hE (S_11e ke7) (j := q) rfl (by omega) (by decide) dX3_compare_21 ?_
  refine lv_icmp_ne (tgt := 27) hx hb dX3_compare_22 (by decide) (fun c8 => ?_) (fun c8 => ?_)
  · skip
    refine lv_iload_n hx hb dX3_compare_27 rfl (lv_at hl 1 rfl) ?_
    refine lv_bipush (v := nI 16) hx hb dX3_compare_28 (by decide) ?_
    refine mv_ge (tgt := 53) hx hb (by omega) (by omega) dX3_compare_30 (by decide) (fun c9 => ?_) (fun c9 => ?_)
    · skip
      refine lv_iconst (v := nI 1) hx hb dX3_compare_53 (by decide) ?_
      refine lv_iload_n hx hb dX3_compare_54 rfl (lv_at hl 1 rfl) ?_
      refine lv_bipush (v := nI 16) hx hb dX3_compare_55 (by decide) ?_
      refine mv_isub (z := nI (q - 16)) hx hb (pk_sub (by omega)) dX3_compare_57 ?_
      refine mv_ishl (z := nI (1 * 2 ^ (q - 16))) hx hb (pk_shlN _ _ (mu_l _ (by omega)) (by have : 2 ^ (q - 16) < 2 ^ 16 := Nat.pow_lt_pow_right (by decide) (by omega); omega)) dX3_compare_58 ?_
      exact mx_iret hx hb hr hE hlocks ⟨(by simp only [mCm, if_neg c8]), kv1, rfl, fun w h4 => (show kv1 w = v w by rw [hkv1, va_up_n _ _ h4]), kf2, (kf3.trans hm1.symm), (kf4.trans hm2.symm), (kf5.trans (by simp only [mCl, Int32.add_assoc, nI_add, Nat.add_assoc]))⟩ dX3_compare_59
    · skip
      exfalso; omega
  · skip
    refine lv_iconst (v := nI 0) hx hb dX3_compare_25 (by decide) ?_
    exact mx_iret hx hb hr hE hlocks ⟨(by simp only [mCm, if_pos c8]), kv1, rfl, fun w h4 => (show kv1 w = v w by rw [hkv1, va_up_n _ _ h4]), kf2, (kf3.trans hm1.symm), (kf4.trans hm2.symm), (kf5.trans (by simp only [mCl, Int32.add_assoc, nI_add, Nat.add_assoc]))⟩ dX3_compare_26

set_option maxHeartbeats 4000000 in
set_option maxRecDepth 100000 in
/-- compare at height 1 -/
theorem c_X3_compare1 (l : Launch) (G : va_G) (cy : Nat → ClassId) (ad : Nat → Nat) (cn ck n k : Nat) (v : Nat → Nat → Int32) (o : Nat → Int64) (hn : n ≤ 6) (hk : k ≤ 20) (sz : Nat) (hm1 : v 4 1 = nI n) (hm2 : v 4 2 = nI k) (q : Nat) (hq1 : 8 ≤ q) (hq2 : q < 16) {f10 : Nat → Int32} (h10 : v 10 = f10) {f11 : Nat → Int32} (h11 : v 11 = f11) : mMi l yX3_compare wsX3_compare ({ frames := 8, cells := 0, slots := 0, locals := 140 }) G cy ad (Sy cy ad cn ck v o) sz [.ref (ad 4), .int (nI q)] 0 0 (fun (r : Int32) u => r = nI (mCm f10 f11 1 q) ∧ ∃ v' : Nat → Nat → Int32, u = (ad, Sy cy ad cn ck v' o) ∧ mQL v v' (mCl f10 f11 1 q)) := by
  refine Met.ofW (cc := cX3_compare) (maxL := 2) (ret := (some .int)) (by decide) rfl ?_
  intro p e s m args below meth c s₁ B hml hv
  obtain ⟨rfl, hv⟩ := hv
  have hsz := hv.1
  subst hsz
  have hN := hv.2.2
  have hE := mP_E hv
  have hx := B.exec
  have hb := B.bytes
  have hr := B.returns
  have hts := atoms_spec (ws := wsX3_compare) B.pre
  have hown : s.vm.findClass RX3 = some m.cls := findClass_of_methodNamed B.named
  have hlocks := B.notSynchronized
  have hiX3 : ∀ w ∈ wsX30, w ∈ wsX3_compare := by decide +kernel
  have hl := lv_entry ([.ref (ad 4), .int (nI q)]) (n := 2) (Nat.le_of_ble_eq_true rfl)
  rw [lg_entry_eq]
  generalize (lg_sl ([.ref (ad 4), .int (nI q)]) ++ List.replicate (2 - (lg_sl ([.ref (ad 4), .int (nI q)])).length) Slot.unset).toArray = ls at hl ⊢
  have hl : lv_has ls 2 [(0, .ref (ad 4)), (1, .int (nI q))] := hl
  refine lv_aload_n hx hb dX3_compare_0 rfl (lv_at hl 0 rfl) ?_
  refine lv_dup hx hb dX3_compare_1 rfl ?_
  refine va_get (D := G) (ci := 3) (v := .int (v 4 10)) (C := RX3) (T := TX3) (N := 11) hx hb hts hiX3 hown hN.1 (mE_P1 hE (S_4f rfl hm1 hm2 rfl)) 0 rfl rfl 10 (by decide) (hts (.fieldLink RX3 100 "SealedCupboardsModel" "looked" "I") (by decide +kernel)) (fun _ h9 => h9) rfl dX3_compare_2 ?_
  refine lv_iconst (v := nI 1) hx hb dX3_compare_5 (by decide) ?_
  refine mv_iadd (z := (v 4 10) + (nI 1)) hx hb rfl dX3_compare_6 ?_
  refine mx_put (ci := 3) (v := .int ((v 4 10) + (nI 1))) (ty := .int) (C := RX3) (T := TX3) (N := 11) hx hb hts hiX3 tyX3 tyX3_ok nmX3 hown hN hE (S_4f rfl hm1 hm2 rfl) rfl 10 (by decide) (hts (.fieldLink RX3 100 "SealedCupboardsModel" "looked" "I") (by decide +kernel)) (fun _ h9 => h9) rfl (by decide +kernel) rfl rfl (Nat.le_of_ble_eq_true rfl) dX3_compare_7 (fun H locs hE => ?_)
  obtain ⟨kv1, hkv1⟩ : ∃ y99, y99 = va_up v 4 (upd (v 4) 10 ((v 4 10) + (nI 1))) := ⟨_, rfl⟩
  have hE : mE G (mA ad (Sy cy ad cn ck v o) s.heap.size) s.heap ad (Sy cy ad cn ck kv1 o) H locs := by rw [hkv1]; exact (S_4u ((upd_n _ _ (by decide)).trans rfl) ((upd_n _ _ (by decide)).trans hm1) ((upd_n _ _ (by decide)).trans hm2) (upd_s _ _ _)) ▸ hE
  have kf2 : kv1 4 0 = v 4 0 := by rw [hkv1, va_up_s, upd_n _ _ (by decide)]
  have kf3 : kv1 4 1 = nI n := by rw [hkv1, va_up_s, upd_n _ _ (by decide)]; exact hm1
  have kf4 : kv1 4 2 = nI k := by rw [hkv1, va_up_s, upd_n _ _ (by decide)]; exact hm2
  have kf5 : kv1 4 10 = (v 4 10) + (nI 1) := by rw [hkv1, va_up_s, upd_s]
  have ke6 : kv1 10 = f10 := by rw [hkv1, va_up_n _ _ (by omega)]; exact h10
  have ke7 : kv1 11 = f11 := by rw [hkv1, va_up_n _ _ (by omega)]; exact h11
  refine lv_aload_n hx hb dX3_compare_10 rfl (lv_at hl 0 rfl) ?_
  refine va_get (D := G) (ci := 3) (v := .ref (ad 10)) (C := RX3) (T := TX3) (N := 11) hx hb hts hiX3 hown hN.1 (mE_P1 hE (S_4f kf2 kf3 kf4 kf5)) 0 rfl rfl 8 (by decide) (hts (.fieldLink RX3 25 "SealedCupboardsModel" "sums" "[I") (by decide +kernel)) (fun _ h9 => h9) rfl dX3_compare_11 ?_
  refine lv_iload_n hx hb dX3_compare_14 rfl (lv_at hl 1 rfl) ?_
  refine mx_iald hx hb hN hE (S_10e ke6) (j := q) rfl (by omega) (by decide) dX3_compare_15 ?_
  refine lv_aload_n hx hb dX3_compare_16 rfl (lv_at hl 0 rfl) ?_
  refine va_get (D := G) (ci := 3) (v := .ref (ad 11)) (C := RX3) (T := TX3) (N := 11) hx hb hts hiX3 hown hN.1 (mE_P1 hE (S_4f kf2 kf3 kf4 kf5)) 0 rfl rfl 9 (by decide) (hts (.fieldLink RX3 28 "SealedCupboardsModel" "others" "[I") (by decide +kernel)) (fun _ h9 => h9) rfl dX3_compare_17 ?_
  refine lv_iload_n hx hb dX3_compare_20 rfl (lv_at hl 1 rfl) ?_
  refine mx_iald hx hb hN hE (S_11e ke7) (j := q) rfl (by omega) (by decide) dX3_compare_21 ?_
  refine lv_icmp_ne (tgt := 27) hx hb dX3_compare_22 (by decide) (fun c8 => ?_) (fun c8 => ?_)
  · skip
    refine lv_iload_n hx hb dX3_compare_27 rfl (lv_at hl 1 rfl) ?_
    refine lv_bipush (v := nI 16) hx hb dX3_compare_28 (by decide) ?_
    refine mv_ge (tgt := 53) hx hb (by omega) (by omega) dX3_compare_30 (by decide) (fun c9 => ?_) (fun c9 => ?_)
    · skip
      exfalso; omega
    · skip
      refine lv_aload_n hx hb dX3_compare_33 rfl (lv_at hl 0 rfl) ?_
      refine lv_iconst (v := nI 2) hx hb dX3_compare_34 (by decide) ?_
      refine lv_iload_n hx hb dX3_compare_35 rfl (lv_at hl 1 rfl) ?_
      refine mv_imul (z := nI (2 * q)) hx hb (pk_mul _ _) dX3_compare_36 ?_
      refine va_calli (va_runV (As := [.int (nI (2 * q))]) (rest := []) ⟨hx, hb, hml, hown, hts⟩ (c_X3_compare0 l G cy ad cn ck n k kv1 o hn hk _ kf3 kf4 (2 * q) (by omega) (by omega) ke6 ke7) (cwV 1 hts gX3_compare_X3_compare rfl rfl rfl (by decide +kernel) ⟨Nat.le_of_ble_eq_true rfl, Nat.le_of_ble_eq_true rfl⟩) (mP_V (r := (RX3, TX3, 11)) hN hE (S_4f kf2 kf3 kf4 kf5) rfl) rfl rfl hl.1 rfl (lv_room (Nat.le_of_ble_eq_true rfl)) dX3_compare_37 ⟨Nat.le_of_ble_eq_true rfl, Nat.le_of_ble_eq_true rfl⟩) hE.2.2.2 (fun q _ h => mE_A hE q h) (mE_A hE) (fun r uq tq H locs ht hvm hw hB hz1 hk1 hS => ?_)
      obtain ⟨rfl, kv10, rfl, kq11⟩ := hw
      have hE : mE G (mA ad (Sy cy ad cn ck v o) s.heap.size) s.heap ad (Sy cy ad cn ck kv10 o) H locs := mE_call hE hB ht hS
      have ke12 : kv10 10 = f10 := (kq11.1 10 (by decide)).trans ke6
      have ke13 : kv10 11 = f11 := (kq11.1 11 (by decide)).trans ke7
      have kf14 : kv10 4 0 = v 4 0 := (kq11.2.1).trans kf2
      have kf15 : kv10 4 1 = nI n := (kq11.2.2.1).trans kf3
      have kf16 : kv10 4 2 = nI k := (kq11.2.2.2.1).trans kf4
      have kf17 : kv10 4 10 = ((v 4 10) + (nI 1)) + nI (mCl f10 f11 0 (2 * q)) := kq11.2.2.2.2.trans (by rw [kf5])
      refine lv_aload_n hx hb dX3_compare_40 rfl (lv_at hl 0 rfl) ?_
      refine lv_iconst (v := nI 2) hx hb dX3_compare_41 (by decide) ?_
      refine lv_iload_n hx hb dX3_compare_42 rfl (lv_at hl 1 rfl) ?_
      refine mv_imul (z := nI (2 * q)) hx hb (pk_mul _ _) dX3_compare_43 ?_
      refine lv_iconst (v := nI 1) hx hb dX3_compare_44 (by decide) ?_
      refine mv_iadd (z := nI ((2 * q) + 1)) hx hb (nI_add _ _) dX3_compare_45 ?_
      refine va_calli (va_runV (As := [.int (nI ((2 * q) + 1))]) (rest := [.int (nI (mCm f10 f11 0 (2 * q)))]) ⟨hx, hb, hml, hown, hts⟩ (c_X3_compare0 l G cy ad cn ck n k kv10 o hn hk _ kf15 kf16 ((2 * q) + 1) (by omega) (by omega) ke12 ke13) (cwV 1 hts gX3_compare_X3_compare rfl rfl rfl (by decide +kernel) ⟨Nat.le_of_ble_eq_true rfl, Nat.le_of_ble_eq_true rfl⟩) (mP_V (r := (RX3, TX3, 11)) hN hE (S_4f kf14 kf15 kf16 kf17) rfl) rfl rfl hl.1 rfl (lv_room (Nat.le_of_ble_eq_true rfl)) dX3_compare_46 ⟨Nat.le_of_ble_eq_true rfl, Nat.le_of_ble_eq_true rfl⟩) hE.2.2.2 (fun q _ h => mE_A hE q h) (mE_A hE) (fun r uq tq H locs ht hvm hw hB hz1 hk1 hS => ?_)
      obtain ⟨rfl, kv18, rfl, kq19⟩ := hw
      have hE : mE G (mA ad (Sy cy ad cn ck v o) s.heap.size) s.heap ad (Sy cy ad cn ck kv18 o) H locs := mE_call hE hB ht hS
      have ke20 : kv18 10 = f10 := (kq19.1 10 (by decide)).trans ke12
      have ke21 : kv18 11 = f11 := (kq19.1 11 (by decide)).trans ke13
      have kf22 : kv18 4 0 = v 4 0 := (kq19.2.1).trans kf14
      have kf23 : kv18 4 1 = nI n := (kq19.2.2.1).trans kf15
      have kf24 : kv18 4 2 = nI k := (kq19.2.2.2.1).trans kf16
      have kf25 : kv18 4 10 = (((v 4 10) + (nI 1)) + nI (mCl f10 f11 0 (2 * q))) + nI (mCl f10 f11 0 ((2 * q) + 1)) := kq19.2.2.2.2.trans (by rw [kf17])
      refine mv_ior (z := nI ((mCm f10 f11 0 (2 * q)) ||| (mCm f10 f11 0 ((2 * q) + 1)))) hx hb (mu_or _ _) dX3_compare_49 ?_
      refine lv_goto (tgt := 59) hx hb dX3_compare_50 (by decide) ?_
      exact mx_iret hx hb hr hE hlocks ⟨(by simp only [mCm, if_neg c8]), kv18, rfl, fun w h4 => ((kq19.1 w h4).trans ((kq11.1 w h4).trans (show kv1 w = v w by rw [hkv1, va_up_n _ _ h4]))), kf22, (kf23.trans hm1.symm), (kf24.trans hm2.symm), (kf25.trans (by simp only [mCl, if_neg c8, Int32.add_assoc, nI_add, Nat.add_assoc]))⟩ dX3_compare_59
  · skip
    refine lv_iconst (v := nI 0) hx hb dX3_compare_25 (by decide) ?_
    exact mx_iret hx hb hr hE hlocks ⟨(by simp only [mCm, if_pos c8]), kv1, rfl, fun w h4 => (show kv1 w = v w by rw [hkv1, va_up_n _ _ h4]), kf2, (kf3.trans hm1.symm), (kf4.trans hm2.symm), (kf5.trans (by simp only [mCl, if_pos c8, Int32.add_assoc, nI_add, Nat.add_assoc]))⟩ dX3_compare_26

set_option maxHeartbeats 4000000 in
set_option maxRecDepth 100000 in
/-- compare at height 2 -/
theorem c_X3_compare2 (l : Launch) (G : va_G) (cy : Nat → ClassId) (ad : Nat → Nat) (cn ck n k : Nat) (v : Nat → Nat → Int32) (o : Nat → Int64) (hn : n ≤ 6) (hk : k ≤ 20) (sz : Nat) (hm1 : v 4 1 = nI n) (hm2 : v 4 2 = nI k) (q : Nat) (hq1 : 4 ≤ q) (hq2 : q < 8) {f10 : Nat → Int32} (h10 : v 10 = f10) {f11 : Nat → Int32} (h11 : v 11 = f11) : mMi l yX3_compare wsX3_compare ({ frames := 9, cells := 0, slots := 0, locals := 180 }) G cy ad (Sy cy ad cn ck v o) sz [.ref (ad 4), .int (nI q)] 0 0 (fun (r : Int32) u => r = nI (mCm f10 f11 2 q) ∧ ∃ v' : Nat → Nat → Int32, u = (ad, Sy cy ad cn ck v' o) ∧ mQL v v' (mCl f10 f11 2 q)) := by
  refine Met.ofW (cc := cX3_compare) (maxL := 2) (ret := (some .int)) (by decide) rfl ?_
  intro p e s m args below meth c s₁ B hml hv
  obtain ⟨rfl, hv⟩ := hv
  have hsz := hv.1
  subst hsz
  have hN := hv.2.2
  have hE := mP_E hv
  have hx := B.exec
  have hb := B.bytes
  have hr := B.returns
  have hts := atoms_spec (ws := wsX3_compare) B.pre
  have hown : s.vm.findClass RX3 = some m.cls := findClass_of_methodNamed B.named
  have hlocks := B.notSynchronized
  have hiX3 : ∀ w ∈ wsX30, w ∈ wsX3_compare := by decide +kernel
  have hl := lv_entry ([.ref (ad 4), .int (nI q)]) (n := 2) (Nat.le_of_ble_eq_true rfl)
  rw [lg_entry_eq]
  generalize (lg_sl ([.ref (ad 4), .int (nI q)]) ++ List.replicate (2 - (lg_sl ([.ref (ad 4), .int (nI q)])).length) Slot.unset).toArray = ls at hl ⊢
  have hl : lv_has ls 2 [(0, .ref (ad 4)), (1, .int (nI q))] := hl
  refine lv_aload_n hx hb dX3_compare_0 rfl (lv_at hl 0 rfl) ?_
  refine lv_dup hx hb dX3_compare_1 rfl ?_
  refine va_get (D := G) (ci := 3) (v := .int (v 4 10)) (C := RX3) (T := TX3) (N := 11) hx hb hts hiX3 hown hN.1 (mE_P1 hE (S_4f rfl hm1 hm2 rfl)) 0 rfl rfl 10 (by decide) (hts (.fieldLink RX3 100 "SealedCupboardsModel" "looked" "I") (by decide +kernel)) (fun _ h9 => h9) rfl dX3_compare_2 ?_
  refine lv_iconst (v := nI 1) hx hb dX3_compare_5 (by decide) ?_
  refine mv_iadd (z := (v 4 10) + (nI 1)) hx hb rfl dX3_compare_6 ?_
  refine mx_put (ci := 3) (v := .int ((v 4 10) + (nI 1))) (ty := .int) (C := RX3) (T := TX3) (N := 11) hx hb hts hiX3 tyX3 tyX3_ok nmX3 hown hN hE (S_4f rfl hm1 hm2 rfl) rfl 10 (by decide) (hts (.fieldLink RX3 100 "SealedCupboardsModel" "looked" "I") (by decide +kernel)) (fun _ h9 => h9) rfl (by decide +kernel) rfl rfl (Nat.le_of_ble_eq_true rfl) dX3_compare_7 (fun H locs hE => ?_)
  obtain ⟨kv1, hkv1⟩ : ∃ y99, y99 = va_up v 4 (upd (v 4) 10 ((v 4 10) + (nI 1))) := ⟨_, rfl⟩
  have hE : mE G (mA ad (Sy cy ad cn ck v o) s.heap.size) s.heap ad (Sy cy ad cn ck kv1 o) H locs := by rw [hkv1]; exact (S_4u ((upd_n _ _ (by decide)).trans rfl) ((upd_n _ _ (by decide)).trans hm1) ((upd_n _ _ (by decide)).trans hm2) (upd_s _ _ _)) ▸ hE
  have kf2 : kv1 4 0 = v 4 0 := by rw [hkv1, va_up_s, upd_n _ _ (by decide)]
  have kf3 : kv1 4 1 = nI n := by rw [hkv1, va_up_s, upd_n _ _ (by decide)]; exact hm1
  have kf4 : kv1 4 2 = nI k := by rw [hkv1, va_up_s, upd_n _ _ (by decide)]; exact hm2
  have kf5 : kv1 4 10 = (v 4 10) + (nI 1) := by rw [hkv1, va_up_s, upd_s]
  have ke6 : kv1 10 = f10 := by rw [hkv1, va_up_n _ _ (by omega)]; exact h10
  have ke7 : kv1 11 = f11 := by rw [hkv1, va_up_n _ _ (by omega)]; exact h11
  refine lv_aload_n hx hb dX3_compare_10 rfl (lv_at hl 0 rfl) ?_
  refine va_get (D := G) (ci := 3) (v := .ref (ad 10)) (C := RX3) (T := TX3) (N := 11) hx hb hts hiX3 hown hN.1 (mE_P1 hE (S_4f kf2 kf3 kf4 kf5)) 0 rfl rfl 8 (by decide) (hts (.fieldLink RX3 25 "SealedCupboardsModel" "sums" "[I") (by decide +kernel)) (fun _ h9 => h9) rfl dX3_compare_11 ?_
  refine lv_iload_n hx hb dX3_compare_14 rfl (lv_at hl 1 rfl) ?_
  refine mx_iald hx hb hN hE (S_10e ke6) (j := q) rfl (by omega) (by decide) dX3_compare_15 ?_
  refine lv_aload_n hx hb dX3_compare_16 rfl (lv_at hl 0 rfl) ?_
  refine va_get (D := G) (ci := 3) (v := .ref (ad 11)) (C := RX3) (T := TX3) (N := 11) hx hb hts hiX3 hown hN.1 (mE_P1 hE (S_4f kf2 kf3 kf4 kf5)) 0 rfl rfl 9 (by decide) (hts (.fieldLink RX3 28 "SealedCupboardsModel" "others" "[I") (by decide +kernel)) (fun _ h9 => h9) rfl dX3_compare_17 ?_
  refine lv_iload_n hx hb dX3_compare_20 rfl (lv_at hl 1 rfl) ?_
  refine mx_iald hx hb hN hE (S_11e ke7) (j := q) rfl (by omega) (by decide) dX3_compare_21 ?_
  refine lv_icmp_ne (tgt := 27) hx hb dX3_compare_22 (by decide) (fun c8 => ?_) (fun c8 => ?_)
  · skip
    refine lv_iload_n hx hb dX3_compare_27 rfl (lv_at hl 1 rfl) ?_
    refine lv_bipush (v := nI 16) hx hb dX3_compare_28 (by decide) ?_
    refine mv_ge (tgt := 53) hx hb (by omega) (by omega) dX3_compare_30 (by decide) (fun c9 => ?_) (fun c9 => ?_)
    · skip
      exfalso; omega
    · skip
      refine lv_aload_n hx hb dX3_compare_33 rfl (lv_at hl 0 rfl) ?_
      refine lv_iconst (v := nI 2) hx hb dX3_compare_34 (by decide) ?_
      refine lv_iload_n hx hb dX3_compare_35 rfl (lv_at hl 1 rfl) ?_
      refine mv_imul (z := nI (2 * q)) hx hb (pk_mul _ _) dX3_compare_36 ?_
      refine va_calli (va_runV (As := [.int (nI (2 * q))]) (rest := []) ⟨hx, hb, hml, hown, hts⟩ (c_X3_compare1 l G cy ad cn ck n k kv1 o hn hk _ kf3 kf4 (2 * q) (by omega) (by omega) ke6 ke7) (cwV 1 hts gX3_compare_X3_compare rfl rfl rfl (by decide +kernel) ⟨Nat.le_of_ble_eq_true rfl, Nat.le_of_ble_eq_true rfl⟩) (mP_V (r := (RX3, TX3, 11)) hN hE (S_4f kf2 kf3 kf4 kf5) rfl) rfl rfl hl.1 rfl (lv_room (Nat.le_of_ble_eq_true rfl)) dX3_compare_37 ⟨Nat.le_of_ble_eq_true rfl, Nat.le_of_ble_eq_true rfl⟩) hE.2.2.2 (fun q _ h => mE_A hE q h) (mE_A hE) (fun r uq tq H locs ht hvm hw hB hz1 hk1 hS => ?_)
      obtain ⟨rfl, kv10, rfl, kq11⟩ := hw
      have hE : mE G (mA ad (Sy cy ad cn ck v o) s.heap.size) s.heap ad (Sy cy ad cn ck kv10 o) H locs := mE_call hE hB ht hS
      have ke12 : kv10 10 = f10 := (kq11.1 10 (by decide)).trans ke6
      have ke13 : kv10 11 = f11 := (kq11.1 11 (by decide)).trans ke7
      have kf14 : kv10 4 0 = v 4 0 := (kq11.2.1).trans kf2
      have kf15 : kv10 4 1 = nI n := (kq11.2.2.1).trans kf3
      have kf16 : kv10 4 2 = nI k := (kq11.2.2.2.1).trans kf4
      have kf17 : kv10 4 10 = ((v 4 10) + (nI 1)) + nI (mCl f10 f11 1 (2 * q)) := kq11.2.2.2.2.trans (by rw [kf5])
      refine lv_aload_n hx hb dX3_compare_40 rfl (lv_at hl 0 rfl) ?_
      refine lv_iconst (v := nI 2) hx hb dX3_compare_41 (by decide) ?_
      refine lv_iload_n hx hb dX3_compare_42 rfl (lv_at hl 1 rfl) ?_
      refine mv_imul (z := nI (2 * q)) hx hb (pk_mul _ _) dX3_compare_43 ?_
      refine lv_iconst (v := nI 1) hx hb dX3_compare_44 (by decide) ?_
      refine mv_iadd (z := nI ((2 * q) + 1)) hx hb (nI_add _ _) dX3_compare_45 ?_
      refine va_calli (va_runV (As := [.int (nI ((2 * q) + 1))]) (rest := [.int (nI (mCm f10 f11 1 (2 * q)))]) ⟨hx, hb, hml, hown, hts⟩ (c_X3_compare1 l G cy ad cn ck n k kv10 o hn hk _ kf15 kf16 ((2 * q) + 1) (by omega) (by omega) ke12 ke13) (cwV 1 hts gX3_compare_X3_compare rfl rfl rfl (by decide +kernel) ⟨Nat.le_of_ble_eq_true rfl, Nat.le_of_ble_eq_true rfl⟩) (mP_V (r := (RX3, TX3, 11)) hN hE (S_4f kf14 kf15 kf16 kf17) rfl) rfl rfl hl.1 rfl (lv_room (Nat.le_of_ble_eq_true rfl)) dX3_compare_46 ⟨Nat.le_of_ble_eq_true rfl, Nat.le_of_ble_eq_true rfl⟩) hE.2.2.2 (fun q _ h => mE_A hE q h) (mE_A hE) (fun r uq tq H locs ht hvm hw hB hz1 hk1 hS => ?_)
      obtain ⟨rfl, kv18, rfl, kq19⟩ := hw
      have hE : mE G (mA ad (Sy cy ad cn ck v o) s.heap.size) s.heap ad (Sy cy ad cn ck kv18 o) H locs := mE_call hE hB ht hS
      have ke20 : kv18 10 = f10 := (kq19.1 10 (by decide)).trans ke12
      have ke21 : kv18 11 = f11 := (kq19.1 11 (by decide)).trans ke13
      have kf22 : kv18 4 0 = v 4 0 := (kq19.2.1).trans kf14
      have kf23 : kv18 4 1 = nI n := (kq19.2.2.1).trans kf15
      have kf24 : kv18 4 2 = nI k := (kq19.2.2.2.1).trans kf16
      have kf25 : kv18 4 10 = (((v 4 10) + (nI 1)) + nI (mCl f10 f11 1 (2 * q))) + nI (mCl f10 f11 1 ((2 * q) + 1)) := kq19.2.2.2.2.trans (by rw [kf17])
      refine mv_ior (z := nI ((mCm f10 f11 1 (2 * q)) ||| (mCm f10 f11 1 ((2 * q) + 1)))) hx hb (mu_or _ _) dX3_compare_49 ?_
      refine lv_goto (tgt := 59) hx hb dX3_compare_50 (by decide) ?_
      exact mx_iret hx hb hr hE hlocks ⟨(by simp only [mCm, if_neg c8]), kv18, rfl, fun w h4 => ((kq19.1 w h4).trans ((kq11.1 w h4).trans (show kv1 w = v w by rw [hkv1, va_up_n _ _ h4]))), kf22, (kf23.trans hm1.symm), (kf24.trans hm2.symm), (kf25.trans (by simp only [mCl, if_neg c8, Int32.add_assoc, nI_add, Nat.add_assoc]))⟩ dX3_compare_59
  · skip
    refine lv_iconst (v := nI 0) hx hb dX3_compare_25 (by decide) ?_
    exact mx_iret hx hb hr hE hlocks ⟨(by simp only [mCm, if_pos c8]), kv1, rfl, fun w h4 => (show kv1 w = v w by rw [hkv1, va_up_n _ _ h4]), kf2, (kf3.trans hm1.symm), (kf4.trans hm2.symm), (kf5.trans (by simp only [mCl, if_pos c8, Int32.add_assoc, nI_add, Nat.add_assoc]))⟩ dX3_compare_26

set_option maxHeartbeats 4000000 in
set_option maxRecDepth 100000 in
/-- compare at height 3 -/
theorem c_X3_compare3 (l : Launch) (G : va_G) (cy : Nat → ClassId) (ad : Nat → Nat) (cn ck n k : Nat) (v : Nat → Nat → Int32) (o : Nat → Int64) (hn : n ≤ 6) (hk : k ≤ 20) (sz : Nat) (hm1 : v 4 1 = nI n) (hm2 : v 4 2 = nI k) (q : Nat) (hq1 : 2 ≤ q) (hq2 : q < 4) {f10 : Nat → Int32} (h10 : v 10 = f10) {f11 : Nat → Int32} (h11 : v 11 = f11) : mMi l yX3_compare wsX3_compare ({ frames := 10, cells := 0, slots := 0, locals := 220 }) G cy ad (Sy cy ad cn ck v o) sz [.ref (ad 4), .int (nI q)] 0 0 (fun (r : Int32) u => r = nI (mCm f10 f11 3 q) ∧ ∃ v' : Nat → Nat → Int32, u = (ad, Sy cy ad cn ck v' o) ∧ mQL v v' (mCl f10 f11 3 q)) := by
  refine Met.ofW (cc := cX3_compare) (maxL := 2) (ret := (some .int)) (by decide) rfl ?_
  intro p e s m args below meth c s₁ B hml hv
  obtain ⟨rfl, hv⟩ := hv
  have hsz := hv.1
  subst hsz
  have hN := hv.2.2
  have hE := mP_E hv
  have hx := B.exec
  have hb := B.bytes
  have hr := B.returns
  have hts := atoms_spec (ws := wsX3_compare) B.pre
  have hown : s.vm.findClass RX3 = some m.cls := findClass_of_methodNamed B.named
  have hlocks := B.notSynchronized
  have hiX3 : ∀ w ∈ wsX30, w ∈ wsX3_compare := by decide +kernel
  have hl := lv_entry ([.ref (ad 4), .int (nI q)]) (n := 2) (Nat.le_of_ble_eq_true rfl)
  rw [lg_entry_eq]
  generalize (lg_sl ([.ref (ad 4), .int (nI q)]) ++ List.replicate (2 - (lg_sl ([.ref (ad 4), .int (nI q)])).length) Slot.unset).toArray = ls at hl ⊢
  have hl : lv_has ls 2 [(0, .ref (ad 4)), (1, .int (nI q))] := hl
  refine lv_aload_n hx hb dX3_compare_0 rfl (lv_at hl 0 rfl) ?_
  refine lv_dup hx hb dX3_compare_1 rfl ?_
  refine va_get (D := G) (ci := 3) (v := .int (v 4 10)) (C := RX3) (T := TX3) (N := 11) hx hb hts hiX3 hown hN.1 (mE_P1 hE (S_4f rfl hm1 hm2 rfl)) 0 rfl rfl 10 (by decide) (hts (.fieldLink RX3 100 "SealedCupboardsModel" "looked" "I") (by decide +kernel)) (fun _ h9 => h9) rfl dX3_compare_2 ?_
  refine lv_iconst (v := nI 1) hx hb dX3_compare_5 (by decide) ?_
  refine mv_iadd (z := (v 4 10) + (nI 1)) hx hb rfl dX3_compare_6 ?_
  refine mx_put (ci := 3) (v := .int ((v 4 10) + (nI 1))) (ty := .int) (C := RX3) (T := TX3) (N := 11) hx hb hts hiX3 tyX3 tyX3_ok nmX3 hown hN hE (S_4f rfl hm1 hm2 rfl) rfl 10 (by decide) (hts (.fieldLink RX3 100 "SealedCupboardsModel" "looked" "I") (by decide +kernel)) (fun _ h9 => h9) rfl (by decide +kernel) rfl rfl (Nat.le_of_ble_eq_true rfl) dX3_compare_7 (fun H locs hE => ?_)
  obtain ⟨kv1, hkv1⟩ : ∃ y99, y99 = va_up v 4 (upd (v 4) 10 ((v 4 10) + (nI 1))) := ⟨_, rfl⟩
  have hE : mE G (mA ad (Sy cy ad cn ck v o) s.heap.size) s.heap ad (Sy cy ad cn ck kv1 o) H locs := by rw [hkv1]; exact (S_4u ((upd_n _ _ (by decide)).trans rfl) ((upd_n _ _ (by decide)).trans hm1) ((upd_n _ _ (by decide)).trans hm2) (upd_s _ _ _)) ▸ hE
  have kf2 : kv1 4 0 = v 4 0 := by rw [hkv1, va_up_s, upd_n _ _ (by decide)]
  have kf3 : kv1 4 1 = nI n := by rw [hkv1, va_up_s, upd_n _ _ (by decide)]; exact hm1
  have kf4 : kv1 4 2 = nI k := by rw [hkv1, va_up_s, upd_n _ _ (by decide)]; exact hm2
  have kf5 : kv1 4 10 = (v 4 10) + (nI 1) := by rw [hkv1, va_up_s, upd_s]
  have ke6 : kv1 10 = f10 := by rw [hkv1, va_up_n _ _ (by omega)]; exact h10
  have ke7 : kv1 11 = f11 := by rw [hkv1, va_up_n _ _ (by omega)]; exact h11
  refine lv_aload_n hx hb dX3_compare_10 rfl (lv_at hl 0 rfl) ?_
  refine va_get (D := G) (ci := 3) (v := .ref (ad 10)) (C := RX3) (T := TX3) (N := 11) hx hb hts hiX3 hown hN.1 (mE_P1 hE (S_4f kf2 kf3 kf4 kf5)) 0 rfl rfl 8 (by decide) (hts (.fieldLink RX3 25 "SealedCupboardsModel" "sums" "[I") (by decide +kernel)) (fun _ h9 => h9) rfl dX3_compare_11 ?_
  refine lv_iload_n hx hb dX3_compare_14 rfl (lv_at hl 1 rfl) ?_
  refine mx_iald hx hb hN hE (S_10e ke6) (j := q) rfl (by omega) (by decide) dX3_compare_15 ?_
  refine lv_aload_n hx hb dX3_compare_16 rfl (lv_at hl 0 rfl) ?_
  refine va_get (D := G) (ci := 3) (v := .ref (ad 11)) (C := RX3) (T := TX3) (N := 11) hx hb hts hiX3 hown hN.1 (mE_P1 hE (S_4f kf2 kf3 kf4 kf5)) 0 rfl rfl 9 (by decide) (hts (.fieldLink RX3 28 "SealedCupboardsModel" "others" "[I") (by decide +kernel)) (fun _ h9 => h9) rfl dX3_compare_17 ?_
  refine lv_iload_n hx hb dX3_compare_20 rfl (lv_at hl 1 rfl) ?_
  refine mx_iald hx hb hN hE (S_11e ke7) (j := q) rfl (by omega) (by decide) dX3_compare_21 ?_
  refine lv_icmp_ne (tgt := 27) hx hb dX3_compare_22 (by decide) (fun c8 => ?_) (fun c8 => ?_)
  · skip
    refine lv_iload_n hx hb dX3_compare_27 rfl (lv_at hl 1 rfl) ?_
    refine lv_bipush (v := nI 16) hx hb dX3_compare_28 (by decide) ?_
    refine mv_ge (tgt := 53) hx hb (by omega) (by omega) dX3_compare_30 (by decide) (fun c9 => ?_) (fun c9 => ?_)
    · skip
      exfalso; omega
    · skip
      refine lv_aload_n hx hb dX3_compare_33 rfl (lv_at hl 0 rfl) ?_
      refine lv_iconst (v := nI 2) hx hb dX3_compare_34 (by decide) ?_
      refine lv_iload_n hx hb dX3_compare_35 rfl (lv_at hl 1 rfl) ?_
      refine mv_imul (z := nI (2 * q)) hx hb (pk_mul _ _) dX3_compare_36 ?_
      refine va_calli (va_runV (As := [.int (nI (2 * q))]) (rest := []) ⟨hx, hb, hml, hown, hts⟩ (c_X3_compare2 l G cy ad cn ck n k kv1 o hn hk _ kf3 kf4 (2 * q) (by omega) (by omega) ke6 ke7) (cwV 1 hts gX3_compare_X3_compare rfl rfl rfl (by decide +kernel) ⟨Nat.le_of_ble_eq_true rfl, Nat.le_of_ble_eq_true rfl⟩) (mP_V (r := (RX3, TX3, 11)) hN hE (S_4f kf2 kf3 kf4 kf5) rfl) rfl rfl hl.1 rfl (lv_room (Nat.le_of_ble_eq_true rfl)) dX3_compare_37 ⟨Nat.le_of_ble_eq_true rfl, Nat.le_of_ble_eq_true rfl⟩) hE.2.2.2 (fun q _ h => mE_A hE q h) (mE_A hE) (fun r uq tq H locs ht hvm hw hB hz1 hk1 hS => ?_)
      obtain ⟨rfl, kv10, rfl, kq11⟩ := hw
      have hE : mE G (mA ad (Sy cy ad cn ck v o) s.heap.size) s.heap ad (Sy cy ad cn ck kv10 o) H locs := mE_call hE hB ht hS
      have ke12 : kv10 10 = f10 := (kq11.1 10 (by decide)).trans ke6
      have ke13 : kv10 11 = f11 := (kq11.1 11 (by decide)).trans ke7
      have kf14 : kv10 4 0 = v 4 0 := (kq11.2.1).trans kf2
      have kf15 : kv10 4 1 = nI n := (kq11.2.2.1).trans kf3
      have kf16 : kv10 4 2 = nI k := (kq11.2.2.2.1).trans kf4
      have kf17 : kv10 4 10 = ((v 4 10) + (nI 1)) + nI (mCl f10 f11 2 (2 * q)) := kq11.2.2.2.2.trans (by rw [kf5])
      refine lv_aload_n hx hb dX3_compare_40 rfl (lv_at hl 0 rfl) ?_
      refine lv_iconst (v := nI 2) hx hb dX3_compare_41 (by decide) ?_
      refine lv_iload_n hx hb dX3_compare_42 rfl (lv_at hl 1 rfl) ?_
      refine mv_imul (z := nI (2 * q)) hx hb (pk_mul _ _) dX3_compare_43 ?_
      refine lv_iconst (v := nI 1) hx hb dX3_compare_44 (by decide) ?_
      refine mv_iadd (z := nI ((2 * q) + 1)) hx hb (nI_add _ _) dX3_compare_45 ?_
      refine va_calli (va_runV (As := [.int (nI ((2 * q) + 1))]) (rest := [.int (nI (mCm f10 f11 2 (2 * q)))]) ⟨hx, hb, hml, hown, hts⟩ (c_X3_compare2 l G cy ad cn ck n k kv10 o hn hk _ kf15 kf16 ((2 * q) + 1) (by omega) (by omega) ke12 ke13) (cwV 1 hts gX3_compare_X3_compare rfl rfl rfl (by decide +kernel) ⟨Nat.le_of_ble_eq_true rfl, Nat.le_of_ble_eq_true rfl⟩) (mP_V (r := (RX3, TX3, 11)) hN hE (S_4f kf14 kf15 kf16 kf17) rfl) rfl rfl hl.1 rfl (lv_room (Nat.le_of_ble_eq_true rfl)) dX3_compare_46 ⟨Nat.le_of_ble_eq_true rfl, Nat.le_of_ble_eq_true rfl⟩) hE.2.2.2 (fun q _ h => mE_A hE q h) (mE_A hE) (fun r uq tq H locs ht hvm hw hB hz1 hk1 hS => ?_)
      obtain ⟨rfl, kv18, rfl, kq19⟩ := hw
      have hE : mE G (mA ad (Sy cy ad cn ck v o) s.heap.size) s.heap ad (Sy cy ad cn ck kv18 o) H locs := mE_call hE hB ht hS
      have ke20 : kv18 10 = f10 := (kq19.1 10 (by decide)).trans ke12
      have ke21 : kv18 11 = f11 := (kq19.1 11 (by decide)).trans ke13
      have kf22 : kv18 4 0 = v 4 0 := (kq19.2.1).trans kf14
      have kf23 : kv18 4 1 = nI n := (kq19.2.2.1).trans kf15
      have kf24 : kv18 4 2 = nI k := (kq19.2.2.2.1).trans kf16
      have kf25 : kv18 4 10 = (((v 4 10) + (nI 1)) + nI (mCl f10 f11 2 (2 * q))) + nI (mCl f10 f11 2 ((2 * q) + 1)) := kq19.2.2.2.2.trans (by rw [kf17])
      refine mv_ior (z := nI ((mCm f10 f11 2 (2 * q)) ||| (mCm f10 f11 2 ((2 * q) + 1)))) hx hb (mu_or _ _) dX3_compare_49 ?_
      refine lv_goto (tgt := 59) hx hb dX3_compare_50 (by decide) ?_
      exact mx_iret hx hb hr hE hlocks ⟨(by simp only [mCm, if_neg c8]), kv18, rfl, fun w h4 => ((kq19.1 w h4).trans ((kq11.1 w h4).trans (show kv1 w = v w by rw [hkv1, va_up_n _ _ h4]))), kf22, (kf23.trans hm1.symm), (kf24.trans hm2.symm), (kf25.trans (by simp only [mCl, if_neg c8, Int32.add_assoc, nI_add, Nat.add_assoc]))⟩ dX3_compare_59
  · skip
    refine lv_iconst (v := nI 0) hx hb dX3_compare_25 (by decide) ?_
    exact mx_iret hx hb hr hE hlocks ⟨(by simp only [mCm, if_pos c8]), kv1, rfl, fun w h4 => (show kv1 w = v w by rw [hkv1, va_up_n _ _ h4]), kf2, (kf3.trans hm1.symm), (kf4.trans hm2.symm), (kf5.trans (by simp only [mCl, if_pos c8, Int32.add_assoc, nI_add, Nat.add_assoc]))⟩ dX3_compare_26

set_option maxHeartbeats 4000000 in
set_option maxRecDepth 100000 in
/-- compare at height 4 -/
theorem c_X3_compare4 (l : Launch) (G : va_G) (cy : Nat → ClassId) (ad : Nat → Nat) (cn ck n k : Nat) (v : Nat → Nat → Int32) (o : Nat → Int64) (hn : n ≤ 6) (hk : k ≤ 20) (sz : Nat) (hm1 : v 4 1 = nI n) (hm2 : v 4 2 = nI k) (q : Nat) (hq1 : 1 ≤ q) (hq2 : q < 2) {f10 : Nat → Int32} (h10 : v 10 = f10) {f11 : Nat → Int32} (h11 : v 11 = f11) : mMi l yX3_compare wsX3_compare ({ frames := 11, cells := 0, slots := 0, locals := 260 }) G cy ad (Sy cy ad cn ck v o) sz [.ref (ad 4), .int (nI q)] 0 0 (fun (r : Int32) u => r = nI (mCm f10 f11 4 q) ∧ ∃ v' : Nat → Nat → Int32, u = (ad, Sy cy ad cn ck v' o) ∧ mQL v v' (mCl f10 f11 4 q)) := by
  refine Met.ofW (cc := cX3_compare) (maxL := 2) (ret := (some .int)) (by decide) rfl ?_
  intro p e s m args below meth c s₁ B hml hv
  obtain ⟨rfl, hv⟩ := hv
  have hsz := hv.1
  subst hsz
  have hN := hv.2.2
  have hE := mP_E hv
  have hx := B.exec
  have hb := B.bytes
  have hr := B.returns
  have hts := atoms_spec (ws := wsX3_compare) B.pre
  have hown : s.vm.findClass RX3 = some m.cls := findClass_of_methodNamed B.named
  have hlocks := B.notSynchronized
  have hiX3 : ∀ w ∈ wsX30, w ∈ wsX3_compare := by decide +kernel
  have hl := lv_entry ([.ref (ad 4), .int (nI q)]) (n := 2) (Nat.le_of_ble_eq_true rfl)
  rw [lg_entry_eq]
  generalize (lg_sl ([.ref (ad 4), .int (nI q)]) ++ List.replicate (2 - (lg_sl ([.ref (ad 4), .int (nI q)])).length) Slot.unset).toArray = ls at hl ⊢
  have hl : lv_has ls 2 [(0, .ref (ad 4)), (1, .int (nI q))] := hl
  refine lv_aload_n hx hb dX3_compare_0 rfl (lv_at hl 0 rfl) ?_
  refine lv_dup hx hb dX3_compare_1 rfl ?_
  refine va_get (D := G) (ci := 3) (v := .int (v 4 10)) (C := RX3) (T := TX3) (N := 11) hx hb hts hiX3 hown hN.1 (mE_P1 hE (S_4f rfl hm1 hm2 rfl)) 0 rfl rfl 10 (by decide) (hts (.fieldLink RX3 100 "SealedCupboardsModel" "looked" "I") (by decide +kernel)) (fun _ h9 => h9) rfl dX3_compare_2 ?_
  refine lv_iconst (v := nI 1) hx hb dX3_compare_5 (by decide) ?_
  refine mv_iadd (z := (v 4 10) + (nI 1)) hx hb rfl dX3_compare_6 ?_
  refine mx_put (ci := 3) (v := .int ((v 4 10) + (nI 1))) (ty := .int) (C := RX3) (T := TX3) (N := 11) hx hb hts hiX3 tyX3 tyX3_ok nmX3 hown hN hE (S_4f rfl hm1 hm2 rfl) rfl 10 (by decide) (hts (.fieldLink RX3 100 "SealedCupboardsModel" "looked" "I") (by decide +kernel)) (fun _ h9 => h9) rfl (by decide +kernel) rfl rfl (Nat.le_of_ble_eq_true rfl) dX3_compare_7 (fun H locs hE => ?_)
  obtain ⟨kv1, hkv1⟩ : ∃ y99, y99 = va_up v 4 (upd (v 4) 10 ((v 4 10) + (nI 1))) := ⟨_, rfl⟩
  have hE : mE G (mA ad (Sy cy ad cn ck v o) s.heap.size) s.heap ad (Sy cy ad cn ck kv1 o) H locs := by rw [hkv1]; exact (S_4u ((upd_n _ _ (by decide)).trans rfl) ((upd_n _ _ (by decide)).trans hm1) ((upd_n _ _ (by decide)).trans hm2) (upd_s _ _ _)) ▸ hE
  have kf2 : kv1 4 0 = v 4 0 := by rw [hkv1, va_up_s, upd_n _ _ (by decide)]
  have kf3 : kv1 4 1 = nI n := by rw [hkv1, va_up_s, upd_n _ _ (by decide)]; exact hm1
  have kf4 : kv1 4 2 = nI k := by rw [hkv1, va_up_s, upd_n _ _ (by decide)]; exact hm2
  have kf5 : kv1 4 10 = (v 4 10) + (nI 1) := by rw [hkv1, va_up_s, upd_s]
  have ke6 : kv1 10 = f10 := by rw [hkv1, va_up_n _ _ (by omega)]; exact h10
  have ke7 : kv1 11 = f11 := by rw [hkv1, va_up_n _ _ (by omega)]; exact h11
  refine lv_aload_n hx hb dX3_compare_10 rfl (lv_at hl 0 rfl) ?_
  refine va_get (D := G) (ci := 3) (v := .ref (ad 10)) (C := RX3) (T := TX3) (N := 11) hx hb hts hiX3 hown hN.1 (mE_P1 hE (S_4f kf2 kf3 kf4 kf5)) 0 rfl rfl 8 (by decide) (hts (.fieldLink RX3 25 "SealedCupboardsModel" "sums" "[I") (by decide +kernel)) (fun _ h9 => h9) rfl dX3_compare_11 ?_
  refine lv_iload_n hx hb dX3_compare_14 rfl (lv_at hl 1 rfl) ?_
  refine mx_iald hx hb hN hE (S_10e ke6) (j := q) rfl (by omega) (by decide) dX3_compare_15 ?_
  refine lv_aload_n hx hb dX3_compare_16 rfl (lv_at hl 0 rfl) ?_
  refine va_get (D := G) (ci := 3) (v := .ref (ad 11)) (C := RX3) (T := TX3) (N := 11) hx hb hts hiX3 hown hN.1 (mE_P1 hE (S_4f kf2 kf3 kf4 kf5)) 0 rfl rfl 9 (by decide) (hts (.fieldLink RX3 28 "SealedCupboardsModel" "others" "[I") (by decide +kernel)) (fun _ h9 => h9) rfl dX3_compare_17 ?_
  refine lv_iload_n hx hb dX3_compare_20 rfl (lv_at hl 1 rfl) ?_
  refine mx_iald hx hb hN hE (S_11e ke7) (j := q) rfl (by omega) (by decide) dX3_compare_21 ?_
  refine lv_icmp_ne (tgt := 27) hx hb dX3_compare_22 (by decide) (fun c8 => ?_) (fun c8 => ?_)
  · skip
    refine lv_iload_n hx hb dX3_compare_27 rfl (lv_at hl 1 rfl) ?_
    refine lv_bipush (v := nI 16) hx hb dX3_compare_28 (by decide) ?_
    refine mv_ge (tgt := 53) hx hb (by omega) (by omega) dX3_compare_30 (by decide) (fun c9 => ?_) (fun c9 => ?_)
    · skip
      exfalso; omega
    · skip
      refine lv_aload_n hx hb dX3_compare_33 rfl (lv_at hl 0 rfl) ?_
      refine lv_iconst (v := nI 2) hx hb dX3_compare_34 (by decide) ?_
      refine lv_iload_n hx hb dX3_compare_35 rfl (lv_at hl 1 rfl) ?_
      refine mv_imul (z := nI (2 * q)) hx hb (pk_mul _ _) dX3_compare_36 ?_
      refine va_calli (va_runV (As := [.int (nI (2 * q))]) (rest := []) ⟨hx, hb, hml, hown, hts⟩ (c_X3_compare3 l G cy ad cn ck n k kv1 o hn hk _ kf3 kf4 (2 * q) (by omega) (by omega) ke6 ke7) (cwV 1 hts gX3_compare_X3_compare rfl rfl rfl (by decide +kernel) ⟨Nat.le_of_ble_eq_true rfl, Nat.le_of_ble_eq_true rfl⟩) (mP_V (r := (RX3, TX3, 11)) hN hE (S_4f kf2 kf3 kf4 kf5) rfl) rfl rfl hl.1 rfl (lv_room (Nat.le_of_ble_eq_true rfl)) dX3_compare_37 ⟨Nat.le_of_ble_eq_true rfl, Nat.le_of_ble_eq_true rfl⟩) hE.2.2.2 (fun q _ h => mE_A hE q h) (mE_A hE) (fun r uq tq H locs ht hvm hw hB hz1 hk1 hS => ?_)
      obtain ⟨rfl, kv10, rfl, kq11⟩ := hw
      have hE : mE G (mA ad (Sy cy ad cn ck v o) s.heap.size) s.heap ad (Sy cy ad cn ck kv10 o) H locs := mE_call hE hB ht hS
      have ke12 : kv10 10 = f10 := (kq11.1 10 (by decide)).trans ke6
      have ke13 : kv10 11 = f11 := (kq11.1 11 (by decide)).trans ke7
      have kf14 : kv10 4 0 = v 4 0 := (kq11.2.1).trans kf2
      have kf15 : kv10 4 1 = nI n := (kq11.2.2.1).trans kf3
      have kf16 : kv10 4 2 = nI k := (kq11.2.2.2.1).trans kf4
      have kf17 : kv10 4 10 = ((v 4 10) + (nI 1)) + nI (mCl f10 f11 3 (2 * q)) := kq11.2.2.2.2.trans (by rw [kf5])
      refine lv_aload_n hx hb dX3_compare_40 rfl (lv_at hl 0 rfl) ?_
      refine lv_iconst (v := nI 2) hx hb dX3_compare_41 (by decide) ?_
      refine lv_iload_n hx hb dX3_compare_42 rfl (lv_at hl 1 rfl) ?_
      refine mv_imul (z := nI (2 * q)) hx hb (pk_mul _ _) dX3_compare_43 ?_
      refine lv_iconst (v := nI 1) hx hb dX3_compare_44 (by decide) ?_
      refine mv_iadd (z := nI ((2 * q) + 1)) hx hb (nI_add _ _) dX3_compare_45 ?_
      refine va_calli (va_runV (As := [.int (nI ((2 * q) + 1))]) (rest := [.int (nI (mCm f10 f11 3 (2 * q)))]) ⟨hx, hb, hml, hown, hts⟩ (c_X3_compare3 l G cy ad cn ck n k kv10 o hn hk _ kf15 kf16 ((2 * q) + 1) (by omega) (by omega) ke12 ke13) (cwV 1 hts gX3_compare_X3_compare rfl rfl rfl (by decide +kernel) ⟨Nat.le_of_ble_eq_true rfl, Nat.le_of_ble_eq_true rfl⟩) (mP_V (r := (RX3, TX3, 11)) hN hE (S_4f kf14 kf15 kf16 kf17) rfl) rfl rfl hl.1 rfl (lv_room (Nat.le_of_ble_eq_true rfl)) dX3_compare_46 ⟨Nat.le_of_ble_eq_true rfl, Nat.le_of_ble_eq_true rfl⟩) hE.2.2.2 (fun q _ h => mE_A hE q h) (mE_A hE) (fun r uq tq H locs ht hvm hw hB hz1 hk1 hS => ?_)
      obtain ⟨rfl, kv18, rfl, kq19⟩ := hw
      have hE : mE G (mA ad (Sy cy ad cn ck v o) s.heap.size) s.heap ad (Sy cy ad cn ck kv18 o) H locs := mE_call hE hB ht hS
      have ke20 : kv18 10 = f10 := (kq19.1 10 (by decide)).trans ke12
      have ke21 : kv18 11 = f11 := (kq19.1 11 (by decide)).trans ke13
      have kf22 : kv18 4 0 = v 4 0 := (kq19.2.1).trans kf14
      have kf23 : kv18 4 1 = nI n := (kq19.2.2.1).trans kf15
      have kf24 : kv18 4 2 = nI k := (kq19.2.2.2.1).trans kf16
      have kf25 : kv18 4 10 = (((v 4 10) + (nI 1)) + nI (mCl f10 f11 3 (2 * q))) + nI (mCl f10 f11 3 ((2 * q) + 1)) := kq19.2.2.2.2.trans (by rw [kf17])
      refine mv_ior (z := nI ((mCm f10 f11 3 (2 * q)) ||| (mCm f10 f11 3 ((2 * q) + 1)))) hx hb (mu_or _ _) dX3_compare_49 ?_
      refine lv_goto (tgt := 59) hx hb dX3_compare_50 (by decide) ?_
      exact mx_iret hx hb hr hE hlocks ⟨(by simp only [mCm, if_neg c8]), kv18, rfl, fun w h4 => ((kq19.1 w h4).trans ((kq11.1 w h4).trans (show kv1 w = v w by rw [hkv1, va_up_n _ _ h4]))), kf22, (kf23.trans hm1.symm), (kf24.trans hm2.symm), (kf25.trans (by simp only [mCl, if_neg c8, Int32.add_assoc, nI_add, Nat.add_assoc]))⟩ dX3_compare_59
  · skip
    refine lv_iconst (v := nI 0) hx hb dX3_compare_25 (by decide) ?_
    exact mx_iret hx hb hr hE hlocks ⟨(by simp only [mCm, if_pos c8]), kv1, rfl, fun w h4 => (show kv1 w = v w by rw [hkv1, va_up_n _ _ h4]), kf2, (kf3.trans hm1.symm), (kf4.trans hm2.symm), (kf5.trans (by simp only [mCl, if_pos c8, Int32.add_assoc, nI_add, Nat.add_assoc]))⟩ dX3_compare_26

set_option maxHeartbeats 4000000 in
set_option maxRecDepth 100000 in
/-- differing -/
theorem c_X3_differing (l : Launch) (G : va_G) (cy : Nat → ClassId) (ad : Nat → Nat) (cn ck n k : Nat) (v : Nat → Nat → Int32) (o : Nat → Int64) (hn : n ≤ 6) (hk : k ≤ 20) (sz : Nat) (hm1 : v 4 1 = nI n) (hm2 : v 4 2 = nI k) (a b9 : Nat) (h_a : a < n) (h_b9 : b9 < n) {f5 : Nat → Int32} (h5 : v 5 = f5) : mMi l yX3_differing wsX3_differing ({ frames := 12, cells := 0, slots := 0, locals := 300 }) G cy ad (Sy cy ad cn ck v o) sz [.ref (ad 4), .int (nI a), .int (nI b9)] 0 0 (fun (r : Int32) u => r = nI (mCm (mS (fun d => f5 (16 * a + d))) (mS (fun d => f5 (16 * b9 + d))) 4 1) ∧ ∃ v' : Nat → Nat → Int32, u = (ad, Sy cy ad cn ck v' o) ∧ mQT v v' (v 4 0) ∧ v' 4 10 = nI (mCl (mS (fun d => f5 (16 * a + d))) (mS (fun d => f5 (16 * b9 + d))) 4 1)) := by
  refine Met.ofW (cc := cX3_differing) (maxL := 3) (ret := (some .int)) (by decide) rfl ?_
  intro p e s m args below meth c s₁ B hml hv
  obtain ⟨rfl, hv⟩ := hv
  have hsz := hv.1
  subst hsz
  have hN := hv.2.2
  have hE := mP_E hv
  have hx := B.exec
  have hb := B.bytes
  have hr := B.returns
  have hts := atoms_spec (ws := wsX3_differing) B.pre
  have hown : s.vm.findClass RX3 = some m.cls := findClass_of_methodNamed B.named
  have hlocks := B.notSynchronized
  have hiX3 : ∀ w ∈ wsX30, w ∈ wsX3_differing := by decide +kernel
  have hl := lv_entry ([.ref (ad 4), .int (nI a), .int (nI b9)]) (n := 3) (Nat.le_of_ble_eq_true rfl)
  rw [lg_entry_eq]
  generalize (lg_sl ([.ref (ad 4), .int (nI a), .int (nI b9)]) ++ List.replicate (3 - (lg_sl ([.ref (ad 4), .int (nI a), .int (nI b9)])).length) Slot.unset).toArray = ls at hl ⊢
  have hl : lv_has ls 3 [(0, .ref (ad 4)), (1, .int (nI a)), (2, .int (nI b9))] := hl
  refine lv_aload_n hx hb dX3_differing_0 rfl (lv_at hl 0 rfl) ?_
  refine lv_iload_n hx hb dX3_differing_1 rfl (lv_at hl 1 rfl) ?_
  refine lv_aload_n hx hb dX3_differing_2 rfl (lv_at hl 0 rfl) ?_
  refine va_get (D := G) (ci := 3) (v := .ref (ad 10)) (C := RX3) (T := TX3) (N := 11) hx hb hts hiX3 hown hN.1 (mE_P1 hE (S_4f rfl hm1 hm2 rfl)) 0 rfl rfl 8 (by decide) (hts (.fieldLink RX3 25 "SealedCupboardsModel" "sums" "[I") (by decide +kernel)) (fun _ h9 => h9) rfl dX3_differing_3 ?_
  refine va_callv (va_runV (As := [.int (nI a), .ref (ad 10)]) (rest := []) ⟨hx, hb, hml, hown, hts⟩ (c_X3_reckon l G cy ad cn ck n k v o hn hk _ hm1 hm2 a 10 h_a (fun g => sy_10) (by decide) (by decide) h5) (cwV 2 hts gX3_differing_X3_reckon rfl rfl rfl (by decide +kernel) ⟨Nat.le_of_ble_eq_true rfl, Nat.le_of_ble_eq_true rfl⟩) (mP_V (r := (RX3, TX3, 11)) hN hE (S_4f rfl hm1 hm2 rfl) rfl) rfl rfl hl.1 rfl (lv_room (Nat.le_of_ble_eq_true rfl)) dX3_differing_6 ⟨Nat.le_of_ble_eq_true rfl, Nat.le_of_ble_eq_true rfl⟩) hE.2.2.2 (fun q _ h => mE_A hE q h) (mE_A hE) (fun uq tq H locs ht hvm hw hB hz1 hk1 hS => ?_)
  obtain ⟨kg1, rfl, kq2⟩ := hw
  have hE : mE G (mA ad (Sy cy ad cn ck v o) s.heap.size) s.heap ad (Sy cy ad cn ck (va_up v 10 kg1) o) H locs := mE_call hE hB ht hS
  obtain ⟨kv3, hkv3⟩ : ∃ y99, y99 = va_up v 10 kg1 := ⟨_, rfl⟩
  have hE : mE G (mA ad (Sy cy ad cn ck v o) s.heap.size) s.heap ad (Sy cy ad cn ck kv3 o) H locs := by rw [hkv3]; exact hE
  have ke4 : kv3 5 = f5 := by rw [hkv3, va_up_n _ _ (by omega)]; exact h5
  have ke5 : kv3 11 = v 11 := by rw [hkv3, va_up_n _ _ (by omega)]
  have ke6 : kv3 10 = kg1 := by rw [hkv3, va_up_s]
  have kf7 : kv3 4 0 = v 4 0 := by rw [hkv3, va_up_n _ _ (by omega)]
  have kf8 : kv3 4 1 = nI n := by rw [hkv3, va_up_n _ _ (by omega)]; exact hm1
  have kf9 : kv3 4 2 = nI k := by rw [hkv3, va_up_n _ _ (by omega)]; exact hm2
  have kf10 : kv3 4 10 = v 4 10 := by rw [hkv3, va_up_n _ _ (by omega)]
  refine lv_aload_n hx hb dX3_differing_9 rfl (lv_at hl 0 rfl) ?_
  refine lv_iload_n hx hb dX3_differing_10 rfl (lv_at hl 2 rfl) ?_
  refine lv_aload_n hx hb dX3_differing_11 rfl (lv_at hl 0 rfl) ?_
  refine va_get (D := G) (ci := 3) (v := .ref (ad 11)) (C := RX3) (T := TX3) (N := 11) hx hb hts hiX3 hown hN.1 (mE_P1 hE (S_4f kf7 kf8 kf9 kf10)) 0 rfl rfl 9 (by decide) (hts (.fieldLink RX3 28 "SealedCupboardsModel" "others" "[I") (by decide +kernel)) (fun _ h9 => h9) rfl dX3_differing_12 ?_
  refine va_callv (va_runV (As := [.int (nI b9), .ref (ad 11)]) (rest := []) ⟨hx, hb, hml, hown, hts⟩ (c_X3_reckon l G cy ad cn ck n k kv3 o hn hk _ kf8 kf9 b9 11 h_b9 (fun g => sy_11) (by decide) (by decide) ke4) (cwV 2 hts gX3_differing_X3_reckon rfl rfl rfl (by decide +kernel) ⟨Nat.le_of_ble_eq_true rfl, Nat.le_of_ble_eq_true rfl⟩) (mP_V (r := (RX3, TX3, 11)) hN hE (S_4f kf7 kf8 kf9 kf10) rfl) rfl rfl hl.1 rfl (lv_room (Nat.le_of_ble_eq_true rfl)) dX3_differing_15 ⟨Nat.le_of_ble_eq_true rfl, Nat.le_of_ble_eq_true rfl⟩) hE.2.2.2 (fun q _ h => mE_A hE q h) (mE_A hE) (fun uq tq H locs ht hvm hw hB hz1 hk1 hS => ?_)
  obtain ⟨kg11, rfl, kq12⟩ := hw
  have hE : mE G (mA ad (Sy cy ad cn ck v o) s.heap.size) s.heap ad (Sy cy ad cn ck (va_up kv3 11 kg11) o) H locs := mE_call hE hB ht hS
  obtain ⟨kv13, hkv13⟩ : ∃ y99, y99 = va_up kv3 11 kg11 := ⟨_, rfl⟩
  have hE : mE G (mA ad (Sy cy ad cn ck v o) s.heap.size) s.heap ad (Sy cy ad cn ck kv13 o) H locs := by rw [hkv13]; exact hE
  have ke14 : kv13 5 = f5 := by rw [hkv13, va_up_n _ _ (by omega)]; exact ke4
  have ke15 : kv13 10 = kg1 := by rw [hkv13, va_up_n _ _ (by omega)]; exact ke6
  have ke16 : kv13 11 = kg11 := by rw [hkv13, va_up_s]
  have kf17 : kv13 4 0 = v 4 0 := by rw [hkv13, va_up_n _ _ (by omega)]; exact kf7
  have kf18 : kv13 4 1 = nI n := by rw [hkv13, va_up_n _ _ (by omega)]; exact kf8
  have kf19 : kv13 4 2 = nI k := by rw [hkv13, va_up_n _ _ (by omega)]; exact kf9
  have kf20 : kv13 4 10 = v 4 10 := by rw [hkv13, va_up_n _ _ (by omega)]; exact kf10
  refine lv_aload_n hx hb dX3_differing_18 rfl (lv_at hl 0 rfl) ?_
  refine lv_iconst (v := nI 0) hx hb dX3_differing_19 (by decide) ?_
  refine mx_put (ci := 3) (v := .int (nI 0)) (ty := .int) (C := RX3) (T := TX3) (N := 11) hx hb hts hiX3 tyX3 tyX3_ok nmX3 hown hN hE (S_4f kf17 kf18 kf19 kf20) rfl 10 (by decide) (hts (.fieldLink RX3 100 "SealedCupboardsModel" "looked" "I") (by decide +kernel)) (fun _ h9 => h9) rfl (by decide +kernel) rfl rfl (Nat.le_of_ble_eq_true rfl) dX3_differing_20 (fun H locs hE => ?_)
  obtain ⟨kv21, hkv21⟩ : ∃ y99, y99 = va_up kv13 4 (upd (kv13 4) 10 (nI 0)) := ⟨_, rfl⟩
  have hE : mE G (mA ad (Sy cy ad cn ck v o) s.heap.size) s.heap ad (Sy cy ad cn ck kv21 o) H locs := by rw [hkv21]; exact (S_4u ((upd_n _ _ (by decide)).trans kf17) ((upd_n _ _ (by decide)).trans kf18) ((upd_n _ _ (by decide)).trans kf19) (upd_s _ _ _)) ▸ hE
  have kf22 : kv21 4 0 = v 4 0 := by rw [hkv21, va_up_s, upd_n _ _ (by decide)]; exact kf17
  have kf23 : kv21 4 1 = nI n := by rw [hkv21, va_up_s, upd_n _ _ (by decide)]; exact kf18
  have kf24 : kv21 4 2 = nI k := by rw [hkv21, va_up_s, upd_n _ _ (by decide)]; exact kf19
  have kf25 : kv21 4 10 = nI 0 := by rw [hkv21, va_up_s, upd_s]
  have ke26 : kv21 5 = f5 := by rw [hkv21, va_up_n _ _ (by omega)]; exact ke14
  have ke27 : kv21 10 = kg1 := by rw [hkv21, va_up_n _ _ (by omega)]; exact ke15
  have ke28 : kv21 11 = kg11 := by rw [hkv21, va_up_n _ _ (by omega)]; exact ke16
  refine lv_aload_n hx hb dX3_differing_23 rfl (lv_at hl 0 rfl) ?_
  refine lv_iconst (v := nI 1) hx hb dX3_differing_24 (by decide) ?_
  refine va_calli (va_runV (As := [.int (nI 1)]) (rest := []) ⟨hx, hb, hml, hown, hts⟩ (c_X3_compare4 l G cy ad cn ck n k kv21 o hn hk _ kf23 kf24 1 (by decide) (by decide) ke27 ke28) (cwV 1 hts gX3_differing_X3_compare rfl rfl rfl (by decide +kernel) ⟨Nat.le_of_ble_eq_true rfl, Nat.le_of_ble_eq_true rfl⟩) (mP_V (r := (RX3, TX3, 11)) hN hE (S_4f kf22 kf23 kf24 kf25) rfl) rfl rfl hl.1 rfl (lv_room (Nat.le_of_ble_eq_true rfl)) dX3_differing_25 ⟨Nat.le_of_ble_eq_true rfl, Nat.le_of_ble_eq_true rfl⟩) hE.2.2.2 (fun q _ h => mE_A hE q h) (mE_A hE) (fun r uq tq H locs ht hvm hw hB hz1 hk1 hS => ?_)
  obtain ⟨rfl, kv29, rfl, kq30⟩ := hw
  have hE : mE G (mA ad (Sy cy ad cn ck v o) s.heap.size) s.heap ad (Sy cy ad cn ck kv29 o) H locs := mE_call hE hB ht hS
  have ke31 : kv29 5 = f5 := (kq30.1 5 (by decide)).trans ke26
  have ke32 : kv29 10 = kg1 := (kq30.1 10 (by decide)).trans ke27
  have ke33 : kv29 11 = kg11 := (kq30.1 11 (by decide)).trans ke28
  have kf34 : kv29 4 0 = v 4 0 := (kq30.2.1).trans kf22
  have kf35 : kv29 4 1 = nI n := (kq30.2.2.1).trans kf23
  have kf36 : kv29 4 2 = nI k := (kq30.2.2.2.1).trans kf24
  have kf37 : kv29 4 10 = (nI 0) + nI (mCl kg1 kg11 4 1) := kq30.2.2.2.2.trans (by rw [kf25])
  exact mx_iret hx hb hr hE hlocks ⟨by rw [(mCm_eq (mCon_S kq2) (mCon_S kq12) 4 1 (by decide) (by decide) (by decide)).1], kv29, rfl, ⟨fun w h4 h10 h11 => ((kq30.1 w h4).trans ((show kv21 w = kv13 w by rw [hkv21, va_up_n _ _ h4]).trans ((show kv13 w = kv3 w by rw [hkv13, va_up_n _ _ h11]).trans (show kv3 w = v w by rw [hkv3, va_up_n _ _ h10])))), kf34, (kf35.trans hm1.symm), (kf36.trans hm2.symm)⟩, kf37.trans (by rw [(mCm_eq (mCon_S kq2) (mCon_S kq12) 4 1 (by decide) (by decide) (by decide)).2]; exact Int32.zero_add _)⟩ dX3_differing_28
