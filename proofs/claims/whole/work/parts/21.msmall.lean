set_option maxHeartbeats 4000000 in
set_option maxRecDepth 100000 in
/-- thrown -/
theorem c_X3_thrown (l : Launch) (G : va_G) (cy : Nat → ClassId) (ad : Nat → Nat) (cn ck n k : Nat) (v : Nat → Nat → Int32) (o : Nat → Int64) (hn : n ≤ 6) (hk : k ≤ 20) (sz : Nat) (hm1 : v 4 1 = nI n) (hm2 : v 4 2 = nI k) : mMi l yX3_thrown wsX3_thrown ({ frames := 7, cells := 0, slots := 0, locals := 100 }) G cy ad (Sy cy ad cn ck v o) sz [.ref (ad 4)] 0 0 (fun (r : Int32) u => r = v 4 0 ∧ u = (ad, Sy cy ad cn ck v o)) := by
  refine Met.ofW (cc := cX3_thrown) (maxL := 1) (ret := (some .int)) (by decide) rfl ?_
  intro p e s m args below meth c s₁ B hml hv
  obtain ⟨rfl, hv⟩ := hv
  have hsz := hv.1
  subst hsz
  have hN := hv.2.2
  have hE := mP_E hv
  have hx := B.exec
  have hb := B.bytes
  have hr := B.returns
  have hts := atoms_spec (ws := wsX3_thrown) B.pre
  have hown : s.vm.findClass RX3 = some m.cls := findClass_of_methodNamed B.named
  have hlocks := B.notSynchronized
  have hiX3 : ∀ w ∈ wsX30, w ∈ wsX3_thrown := by decide +kernel
  have hl := lv_entry ([.ref (ad 4)]) (n := 1) (Nat.le_of_ble_eq_true rfl)
  rw [lg_entry_eq]
  generalize (lg_sl ([.ref (ad 4)]) ++ List.replicate (1 - (lg_sl ([.ref (ad 4)])).length) Slot.unset).toArray = ls at hl ⊢
  have hl : lv_has ls 1 [(0, .ref (ad 4))] := hl
  refine lv_aload_n hx hb dX3_thrown_0 rfl (lv_at hl 0 rfl) ?_
  refine va_get (D := G) (ci := 3) (v := .int (v 4 0)) (C := RX3) (T := TX3) (N := 11) hx hb hts hiX3 hown hN.1 (mE_P1 hE (S_4f rfl hm1 hm2 rfl)) 0 rfl rfl 0 (by decide) (hts (.fieldLink RX3 31 "SealedCupboardsModel" "thrown" "I") (by decide +kernel)) (fun _ h9 => h9) rfl dX3_thrown_1 ?_
  exact mx_iret hx hb hr hE hlocks ⟨rfl, rfl⟩ dX3_thrown_4

set_option maxHeartbeats 4000000 in
set_option maxRecDepth 100000 in
/-- fail -/
theorem c_X3_fail (l : Launch) (G : va_G) (cy : Nat → ClassId) (ad : Nat → Nat) (cn ck n k : Nat) (v : Nat → Nat → Int32) (o : Nat → Int64) (hn : n ≤ 6) (hk : k ≤ 20) (sz : Nat) (hm1 : v 4 1 = nI n) (hm2 : v 4 2 = nI k) (x : Int32) : mMi l yX3_fail wsX3_fail ({ frames := 7, cells := 0, slots := 0, locals := 100 }) G cy ad (Sy cy ad cn ck v o) sz [.ref (ad 4), .int x] 0 0 (fun (r : Int32) u => r = nI 0 ∧ ∃ v' : Nat → Nat → Int32, u = (ad, Sy cy ad cn ck v' o) ∧ mQT v v' x) := by
  refine Met.ofW (cc := cX3_fail) (maxL := 2) (ret := (some .int)) (by decide) rfl ?_
  intro p e s m args below meth c s₁ B hml hv
  obtain ⟨rfl, hv⟩ := hv
  have hsz := hv.1
  subst hsz
  have hN := hv.2.2
  have hE := mP_E hv
  have hx := B.exec
  have hb := B.bytes
  have hr := B.returns
  have hts := atoms_spec (ws := wsX3_fail) B.pre
  have hown : s.vm.findClass RX3 = some m.cls := findClass_of_methodNamed B.named
  have hlocks := B.notSynchronized
  have hiX3 : ∀ w ∈ wsX30, w ∈ wsX3_fail := by decide +kernel
  have hl := lv_entry ([.ref (ad 4), .int x]) (n := 2) (Nat.le_of_ble_eq_true rfl)
  rw [lg_entry_eq]
  generalize (lg_sl ([.ref (ad 4), .int x]) ++ List.replicate (2 - (lg_sl ([.ref (ad 4), .int x])).length) Slot.unset).toArray = ls at hl ⊢
  have hl : lv_has ls 2 [(0, .ref (ad 4)), (1, .int x)] := hl
  refine lv_aload_n hx hb dX3_fail_0 rfl (lv_at hl 0 rfl) ?_
  refine lv_iload_n hx hb dX3_fail_1 rfl (lv_at hl 1 rfl) ?_
  refine mx_put (ci := 3) (v := .int x) (ty := .int) (C := RX3) (T := TX3) (N := 11) hx hb hts hiX3 tyX3 tyX3_ok nmX3 hown hN hE (S_4f rfl hm1 hm2 rfl) rfl 0 (by decide) (hts (.fieldLink RX3 31 "SealedCupboardsModel" "thrown" "I") (by decide +kernel)) (fun _ h9 => h9) rfl (by decide +kernel) rfl rfl (Nat.le_of_ble_eq_true rfl) dX3_fail_2 (fun H locs hE => ?_)
  obtain ⟨kv1, hkv1⟩ : ∃ y99, y99 = va_up v 4 (upd (v 4) 0 x) := ⟨_, rfl⟩
  have hE : mE G (mA ad (Sy cy ad cn ck v o) s.heap.size) s.heap ad (Sy cy ad cn ck kv1 o) H locs := by rw [hkv1]; exact (S_4u (upd_s _ _ _) ((upd_n _ _ (by decide)).trans hm1) ((upd_n _ _ (by decide)).trans hm2) ((upd_n _ _ (by decide)).trans rfl)) ▸ hE
  have kf2 : kv1 4 0 = x := by rw [hkv1, va_up_s, upd_s]
  have kf3 : kv1 4 1 = nI n := by rw [hkv1, va_up_s, upd_n _ _ (by decide)]; exact hm1
  have kf4 : kv1 4 2 = nI k := by rw [hkv1, va_up_s, upd_n _ _ (by decide)]; exact hm2
  have kf5 : kv1 4 10 = v 4 10 := by rw [hkv1, va_up_s, upd_n _ _ (by decide)]
  refine lv_iconst (v := nI 0) hx hb dX3_fail_5 (by decide) ?_
  exact mx_iret hx hb hr hE hlocks ⟨rfl, ⟨kv1, rfl, fun w h4 h10 h11 => (show kv1 w = v w by rw [hkv1, va_up_n _ _ h4]), kf2, (kf3.trans hm1.symm), (kf4.trans hm2.symm)⟩⟩ dX3_fail_6

set_option maxHeartbeats 4000000 in
set_option maxRecDepth 100000 in
/-- isIn: yes -/
theorem c_X3_isIn (l : Launch) (G : va_G) (cy : Nat → ClassId) (ad : Nat → Nat) (M : mC) (sz : Nat) (a b z : Nat) (h1 : b ≤ a) (h2 : a ≤ z) (h3 : z < 100000) : mMi l yX3_isIn wsX3_isIn ({ frames := 7, cells := 0, slots := 0, locals := 100 }) G cy ad (M) sz [.int (nI a), .int (nI b), .int (nI z)] 0 0 (fun (r : Int32) u => r = nI 1 ∧ u = (ad, M)) := by
  refine Met.ofW (cc := cX3_isIn) (maxL := 3) (ret := (some .boolean)) (by decide) rfl ?_
  intro p e s m args below meth c s₁ B hml hv
  obtain ⟨rfl, hv⟩ := hv
  have hsz := hv.1
  subst hsz
  have hN := hv.2.2
  have hE := mP_E hv
  have hx := B.exec
  have hb := B.bytes
  have hr := B.returns
  have hts := atoms_spec (ws := wsX3_isIn) B.pre
  have hown : s.vm.findClass RX3 = some m.cls := findClass_of_methodNamed B.named
  have hlocks := B.notSynchronized
  have hl := lv_entry ([.int (nI a), .int (nI b), .int (nI z)]) (n := 3) (Nat.le_of_ble_eq_true rfl)
  rw [lg_entry_eq]
  generalize (lg_sl ([.int (nI a), .int (nI b), .int (nI z)]) ++ List.replicate (3 - (lg_sl ([.int (nI a), .int (nI b), .int (nI z)])).length) Slot.unset).toArray = ls at hl ⊢
  have hl : lv_has ls 3 [(0, .int (nI a)), (1, .int (nI b)), (2, .int (nI z))] := hl
  refine lv_iload_n hx hb dX3_isIn_0 rfl (lv_at hl 0 rfl) ?_
  refine lv_iload_n hx hb dX3_isIn_1 rfl (lv_at hl 1 rfl) ?_
  refine mv_lt (tgt := 14) hx hb (by omega) (by omega) dX3_isIn_2 (by decide) (fun c1 => ?_) (fun c1 => ?_)
  · skip
    exfalso; omega
  · skip
    refine lv_iload_n hx hb dX3_isIn_5 rfl (lv_at hl 0 rfl) ?_
    refine lv_iload_n hx hb dX3_isIn_6 rfl (lv_at hl 2 rfl) ?_
    refine mv_gt (tgt := 14) hx hb (by omega) (by omega) dX3_isIn_7 (by decide) (fun c2 => ?_) (fun c2 => ?_)
    · skip
      exfalso; omega
    · skip
      refine lv_iconst (v := nI 1) hx hb dX3_isIn_10 (by decide) ?_
      refine lv_goto (tgt := 15) hx hb dX3_isIn_11 (by decide) ?_
      exact mx_zret hx hb hr rfl hE hlocks ⟨rfl, rfl⟩ dX3_isIn_15

set_option maxHeartbeats 4000000 in
set_option maxRecDepth 100000 in
/-- isIn: no -/
theorem x_X3_isIn (l : Launch) (G : va_G) (cy : Nat → ClassId) (ad : Nat → Nat) (M : mC) (sz : Nat) (x y z : Int32) (hbad : x < y ∨ z < x) : mMi l yX3_isIn wsX3_isIn ({ frames := 7, cells := 0, slots := 0, locals := 100 }) G cy ad (M) sz [.int x, .int y, .int z] 0 0 (fun (r : Int32) u => r = nI 0 ∧ u = (ad, M)) := by
  refine Met.ofW (cc := cX3_isIn) (maxL := 3) (ret := (some .boolean)) (by decide) rfl ?_
  intro p e s m args below meth c s₁ B hml hv
  obtain ⟨rfl, hv⟩ := hv
  have hsz := hv.1
  subst hsz
  have hN := hv.2.2
  have hE := mP_E hv
  have hx := B.exec
  have hb := B.bytes
  have hr := B.returns
  have hts := atoms_spec (ws := wsX3_isIn) B.pre
  have hown : s.vm.findClass RX3 = some m.cls := findClass_of_methodNamed B.named
  have hlocks := B.notSynchronized
  have hl := lv_entry ([.int x, .int y, .int z]) (n := 3) (Nat.le_of_ble_eq_true rfl)
  rw [lg_entry_eq]
  generalize (lg_sl ([.int x, .int y, .int z]) ++ List.replicate (3 - (lg_sl ([.int x, .int y, .int z])).length) Slot.unset).toArray = ls at hl ⊢
  have hl : lv_has ls 3 [(0, .int x), (1, .int y), (2, .int z)] := hl
  refine lv_iload_n hx hb dX3_isIn_0 rfl (lv_at hl 0 rfl) ?_
  refine lv_iload_n hx hb dX3_isIn_1 rfl (lv_at hl 1 rfl) ?_
  refine lv_icmp_lt (tgt := 14) hx hb dX3_isIn_2 (by decide) (fun c1 => ?_) (fun c1 => ?_)
  · skip
    refine lv_iconst (v := nI 0) hx hb dX3_isIn_14 (by decide) ?_
    exact mx_zret hx hb hr rfl hE hlocks ⟨rfl, rfl⟩ dX3_isIn_15
  · skip
    refine lv_iload_n hx hb dX3_isIn_5 rfl (lv_at hl 0 rfl) ?_
    refine lv_iload_n hx hb dX3_isIn_6 rfl (lv_at hl 2 rfl) ?_
    refine lv_icmp_gt (tgt := 14) hx hb dX3_isIn_7 (by decide) (fun c2 => ?_) (fun c2 => ?_)
    · skip
      refine lv_iconst (v := nI 0) hx hb dX3_isIn_14 (by decide) ?_
      exact mx_zret hx hb hr rfl hE hlocks ⟨rfl, rfl⟩ dX3_isIn_15
    · skip
      exact absurd hbad (fun h9 => by rcases h9 with h | h; exact c1 h; exact c2 h)

set_option maxHeartbeats 4000000 in
set_option maxRecDepth 100000 in
/-- isDrawer: yes -/
theorem c_X3_isDrawer (l : Launch) (G : va_G) (cy : Nat → ClassId) (ad : Nat → Nat) (M : mC) (sz : Nat) (a : Nat) (h1 : a < 16) : mMi l yX3_isDrawer wsX3_isDrawer ({ frames := 8, cells := 0, slots := 0, locals := 140 }) G cy ad (M) sz [.int (nI a)] 0 0 (fun (r : Int32) u => r = nI 1 ∧ u = (ad, M)) := by
  refine Met.ofW (cc := cX3_isDrawer) (maxL := 1) (ret := (some .boolean)) (by decide) rfl ?_
  intro p e s m args below meth c s₁ B hml hv
  obtain ⟨rfl, hv⟩ := hv
  have hsz := hv.1
  subst hsz
  have hN := hv.2.2
  have hE := mP_E hv
  have hx := B.exec
  have hb := B.bytes
  have hr := B.returns
  have hts := atoms_spec (ws := wsX3_isDrawer) B.pre
  have hown : s.vm.findClass RX3 = some m.cls := findClass_of_methodNamed B.named
  have hlocks := B.notSynchronized
  have hl := lv_entry ([.int (nI a)]) (n := 1) (Nat.le_of_ble_eq_true rfl)
  rw [lg_entry_eq]
  generalize (lg_sl ([.int (nI a)]) ++ List.replicate (1 - (lg_sl ([.int (nI a)])).length) Slot.unset).toArray = ls at hl ⊢
  have hl : lv_has ls 1 [(0, .int (nI a))] := hl
  refine lv_iload_n hx hb dX3_isDrawer_0 rfl (lv_at hl 0 rfl) ?_
  refine lv_iconst (v := nI 0) hx hb dX3_isDrawer_1 (by decide) ?_
  refine lv_bipush (v := nI 15) hx hb dX3_isDrawer_2 (by decide) ?_
  refine va_calli (va_runS (As := [.int (nI a), .int (nI 0), .int (nI 15)]) (rest := []) ⟨hx, hb, hml, hown, hts⟩ (c_X3_isIn l G cy ad M _ a 0 15 (by omega) (by omega) (by omega)) (va_cwS 3 hts gX3_isDrawer_X3_isIn rfl rfl rfl (by decide +kernel) ⟨Nat.le_of_ble_eq_true rfl, Nat.le_of_ble_eq_true rfl⟩) (mP_S hN hE) rfl rfl hl.1 rfl (lv_room (Nat.le_of_ble_eq_true rfl)) dX3_isDrawer_4 ⟨Nat.le_of_ble_eq_true rfl, Nat.le_of_ble_eq_true rfl⟩) hE.2.2.2 (fun q _ h => mE_A hE q h) (mE_A hE) (fun r uq tq H locs ht hvm hw hB hz1 hk1 hS => ?_)
  obtain ⟨rfl, rfl⟩ := hw
  have hE : mE G (mA ad (M) s.heap.size) s.heap ad (M) H locs := mE_call hE hB ht hS
  exact mx_zret hx hb hr rfl hE hlocks ⟨rfl, rfl⟩ dX3_isDrawer_7

set_option maxHeartbeats 4000000 in
set_option maxRecDepth 100000 in
/-- isDrawer: no -/
theorem x_X3_isDrawer (l : Launch) (G : va_G) (cy : Nat → ClassId) (ad : Nat → Nat) (M : mC) (sz : Nat) (x : Int32) (hbad : x < 0 ∨ nI 16 ≤ x) : mMi l yX3_isDrawer wsX3_isDrawer ({ frames := 8, cells := 0, slots := 0, locals := 140 }) G cy ad (M) sz [.int x] 0 0 (fun (r : Int32) u => r = nI 0 ∧ u = (ad, M)) := by
  refine Met.ofW (cc := cX3_isDrawer) (maxL := 1) (ret := (some .boolean)) (by decide) rfl ?_
  intro p e s m args below meth c s₁ B hml hv
  obtain ⟨rfl, hv⟩ := hv
  have hsz := hv.1
  subst hsz
  have hN := hv.2.2
  have hE := mP_E hv
  have hx := B.exec
  have hb := B.bytes
  have hr := B.returns
  have hts := atoms_spec (ws := wsX3_isDrawer) B.pre
  have hown : s.vm.findClass RX3 = some m.cls := findClass_of_methodNamed B.named
  have hlocks := B.notSynchronized
  have hl := lv_entry ([.int x]) (n := 1) (Nat.le_of_ble_eq_true rfl)
  rw [lg_entry_eq]
  generalize (lg_sl ([.int x]) ++ List.replicate (1 - (lg_sl ([.int x])).length) Slot.unset).toArray = ls at hl ⊢
  have hl : lv_has ls 1 [(0, .int x)] := hl
  refine lv_iload_n hx hb dX3_isDrawer_0 rfl (lv_at hl 0 rfl) ?_
  refine lv_iconst (v := nI 0) hx hb dX3_isDrawer_1 (by decide) ?_
  refine lv_bipush (v := nI 15) hx hb dX3_isDrawer_2 (by decide) ?_
  refine va_calli (va_runS (As := [.int x, .int (nI 0), .int (nI 15)]) (rest := []) ⟨hx, hb, hml, hown, hts⟩ (x_X3_isIn l G cy ad M _ x (nI 0) (nI 15) (mi_bad hbad rfl (by decide))) (va_cwS 3 hts gX3_isDrawer_X3_isIn rfl rfl rfl (by decide +kernel) ⟨Nat.le_of_ble_eq_true rfl, Nat.le_of_ble_eq_true rfl⟩) (mP_S hN hE) rfl rfl hl.1 rfl (lv_room (Nat.le_of_ble_eq_true rfl)) dX3_isDrawer_4 ⟨Nat.le_of_ble_eq_true rfl, Nat.le_of_ble_eq_true rfl⟩) hE.2.2.2 (fun q _ h => mE_A hE q h) (mE_A hE) (fun r uq tq H locs ht hvm hw hB hz1 hk1 hS => ?_)
  obtain ⟨rfl, rfl⟩ := hw
  have hE : mE G (mA ad (M) s.heap.size) s.heap ad (M) H locs := mE_call hE hB ht hS
  exact mx_zret hx hb hr rfl hE hlocks ⟨rfl, rfl⟩ dX3_isDrawer_7

set_option maxHeartbeats 4000000 in
set_option maxRecDepth 100000 in
/-- isCupboard -/
theorem c_X3_isCupboard (l : Launch) (G : va_G) (cy : Nat → ClassId) (ad : Nat → Nat) (cn ck n k : Nat) (v : Nat → Nat → Int32) (o : Nat → Int64) (hn : n ≤ 6) (hk : k ≤ 20) (sz : Nat) (hm1 : v 4 1 = nI n) (hm2 : v 4 2 = nI k) (i : Nat) (h_i : i < n) : mMi l yX3_isCupboard wsX3_isCupboard ({ frames := 8, cells := 0, slots := 0, locals := 140 }) G cy ad (Sy cy ad cn ck v o) sz [.ref (ad 4), .int (nI i)] 0 0 (fun (r : Int32) u => r = nI 1 ∧ u = (ad, Sy cy ad cn ck v o)) := by
  refine Met.ofW (cc := cX3_isCupboard) (maxL := 2) (ret := (some .boolean)) (by decide) rfl ?_
  intro p e s m args below meth c s₁ B hml hv
  obtain ⟨rfl, hv⟩ := hv
  have hsz := hv.1
  subst hsz
  have hN := hv.2.2
  have hE := mP_E hv
  have hx := B.exec
  have hb := B.bytes
  have hr := B.returns
  have hts := atoms_spec (ws := wsX3_isCupboard) B.pre
  have hown : s.vm.findClass RX3 = some m.cls := findClass_of_methodNamed B.named
  have hlocks := B.notSynchronized
  have hiX3 : ∀ w ∈ wsX30, w ∈ wsX3_isCupboard := by decide +kernel
  have hl := lv_entry ([.ref (ad 4), .int (nI i)]) (n := 2) (Nat.le_of_ble_eq_true rfl)
  rw [lg_entry_eq]
  generalize (lg_sl ([.ref (ad 4), .int (nI i)]) ++ List.replicate (2 - (lg_sl ([.ref (ad 4), .int (nI i)])).length) Slot.unset).toArray = ls at hl ⊢
  have hl : lv_has ls 2 [(0, .ref (ad 4)), (1, .int (nI i))] := hl
  refine lv_iload_n hx hb dX3_isCupboard_0 rfl (lv_at hl 1 rfl) ?_
  refine lv_iconst (v := nI 0) hx hb dX3_isCupboard_1 (by decide) ?_
  refine lv_aload_n hx hb dX3_isCupboard_2 rfl (lv_at hl 0 rfl) ?_
  refine va_get (D := G) (ci := 3) (v := .int (nI n)) (C := RX3) (T := TX3) (N := 11) hx hb hts hiX3 hown hN.1 (mE_P1 hE (S_4f rfl hm1 hm2 rfl)) 0 rfl rfl 1 (by decide) (hts (.fieldLink RX3 35 "SealedCupboardsModel" "cupboards" "I") (by decide +kernel)) (fun _ h9 => h9) rfl dX3_isCupboard_3 ?_
  refine lv_iconst (v := nI 1) hx hb dX3_isCupboard_6 (by decide) ?_
  refine mv_isub (z := nI (n - 1)) hx hb (pk_sub (by omega)) dX3_isCupboard_7 ?_
  refine va_calli (va_runS (As := [.int (nI i), .int (nI 0), .int (nI (n - 1))]) (rest := []) ⟨hx, hb, hml, hown, hts⟩ (c_X3_isIn l G cy ad (Sy cy ad cn ck v o) _ i 0 (n - 1) (by omega) (by omega) (by omega)) (va_cwS 3 hts gX3_isCupboard_X3_isIn rfl rfl rfl (by decide +kernel) ⟨Nat.le_of_ble_eq_true rfl, Nat.le_of_ble_eq_true rfl⟩) (mP_S hN hE) rfl rfl hl.1 rfl (lv_room (Nat.le_of_ble_eq_true rfl)) dX3_isCupboard_8 ⟨Nat.le_of_ble_eq_true rfl, Nat.le_of_ble_eq_true rfl⟩) hE.2.2.2 (fun q _ h => mE_A hE q h) (mE_A hE) (fun r uq tq H locs ht hvm hw hB hz1 hk1 hS => ?_)
  obtain ⟨rfl, rfl⟩ := hw
  have hE : mE G (mA ad (Sy cy ad cn ck v o) s.heap.size) s.heap ad (Sy cy ad cn ck v o) H locs := mE_call hE hB ht hS
  exact mx_zret hx hb hr rfl hE hlocks ⟨rfl, rfl⟩ dX3_isCupboard_11

set_option maxHeartbeats 4000000 in
set_option maxRecDepth 100000 in
/-- isCupboard -/
theorem x_X3_isCupboard (l : Launch) (G : va_G) (cy : Nat → ClassId) (ad : Nat → Nat) (cn ck n k : Nat) (v : Nat → Nat → Int32) (o : Nat → Int64) (hn : n ≤ 6) (hk : k ≤ 20) (sz : Nat) (hm1 : v 4 1 = nI n) (hm2 : v 4 2 = nI k) (x : Int32) (hbad : x < 0 ∨ nI n ≤ x) : mMi l yX3_isCupboard wsX3_isCupboard ({ frames := 8, cells := 0, slots := 0, locals := 140 }) G cy ad (Sy cy ad cn ck v o) sz [.ref (ad 4), .int x] 0 0 (fun (r : Int32) u => r = nI 0 ∧ u = (ad, Sy cy ad cn ck v o)) := by
  refine Met.ofW (cc := cX3_isCupboard) (maxL := 2) (ret := (some .boolean)) (by decide) rfl ?_
  intro p e s m args below meth c s₁ B hml hv
  obtain ⟨rfl, hv⟩ := hv
  have hsz := hv.1
  subst hsz
  have hN := hv.2.2
  have hE := mP_E hv
  have hx := B.exec
  have hb := B.bytes
  have hr := B.returns
  have hts := atoms_spec (ws := wsX3_isCupboard) B.pre
  have hown : s.vm.findClass RX3 = some m.cls := findClass_of_methodNamed B.named
  have hlocks := B.notSynchronized
  have hiX3 : ∀ w ∈ wsX30, w ∈ wsX3_isCupboard := by decide +kernel
  have hl := lv_entry ([.ref (ad 4), .int x]) (n := 2) (Nat.le_of_ble_eq_true rfl)
  rw [lg_entry_eq]
  generalize (lg_sl ([.ref (ad 4), .int x]) ++ List.replicate (2 - (lg_sl ([.ref (ad 4), .int x])).length) Slot.unset).toArray = ls at hl ⊢
  have hl : lv_has ls 2 [(0, .ref (ad 4)), (1, .int x)] := hl
  refine lv_iload_n hx hb dX3_isCupboard_0 rfl (lv_at hl 1 rfl) ?_
  refine lv_iconst (v := nI 0) hx hb dX3_isCupboard_1 (by decide) ?_
  refine lv_aload_n hx hb dX3_isCupboard_2 rfl (lv_at hl 0 rfl) ?_
  refine va_get (D := G) (ci := 3) (v := .int (nI n)) (C := RX3) (T := TX3) (N := 11) hx hb hts hiX3 hown hN.1 (mE_P1 hE (S_4f rfl hm1 hm2 rfl)) 0 rfl rfl 1 (by decide) (hts (.fieldLink RX3 35 "SealedCupboardsModel" "cupboards" "I") (by decide +kernel)) (fun _ h9 => h9) rfl dX3_isCupboard_3 ?_
  refine lv_iconst (v := nI 1) hx hb dX3_isCupboard_6 (by decide) ?_
  refine mv_isub (z := nI n - nI 1) hx hb rfl dX3_isCupboard_7 ?_
  refine va_calli (va_runS (As := [.int x, .int (nI 0), .int (nI n - nI 1)]) (rest := []) ⟨hx, hb, hml, hown, hts⟩ (x_X3_isIn l G cy ad (Sy cy ad cn ck v o) _ x (nI 0) (nI n - nI 1) (mi_bad1 (by omega) hbad)) (va_cwS 3 hts gX3_isCupboard_X3_isIn rfl rfl rfl (by decide +kernel) ⟨Nat.le_of_ble_eq_true rfl, Nat.le_of_ble_eq_true rfl⟩) (mP_S hN hE) rfl rfl hl.1 rfl (lv_room (Nat.le_of_ble_eq_true rfl)) dX3_isCupboard_8 ⟨Nat.le_of_ble_eq_true rfl, Nat.le_of_ble_eq_true rfl⟩) hE.2.2.2 (fun q _ h => mE_A hE q h) (mE_A hE) (fun r uq tq H locs ht hvm hw hB hz1 hk1 hS => ?_)
  obtain ⟨rfl, rfl⟩ := hw
  have hE : mE G (mA ad (Sy cy ad cn ck v o) s.heap.size) s.heap ad (Sy cy ad cn ck v o) H locs := mE_call hE hB ht hS
  exact mx_zret hx hb hr rfl hE hlocks ⟨rfl, rfl⟩ dX3_isCupboard_11

set_option maxHeartbeats 4000000 in
set_option maxRecDepth 100000 in
/-- isSeal -/
theorem c_X3_isSeal (l : Launch) (G : va_G) (cy : Nat → ClassId) (ad : Nat → Nat) (cn ck n k : Nat) (v : Nat → Nat → Int32) (o : Nat → Int64) (hn : n ≤ 6) (hk : k ≤ 20) (sz : Nat) (hm1 : v 4 1 = nI n) (hm2 : v 4 2 = nI k) (j : Nat) (h_j : j < k) : mMi l yX3_isSeal wsX3_isSeal ({ frames := 8, cells := 0, slots := 0, locals := 140 }) G cy ad (Sy cy ad cn ck v o) sz [.ref (ad 4), .int (nI j)] 0 0 (fun (r : Int32) u => r = nI 1 ∧ u = (ad, Sy cy ad cn ck v o)) := by
  refine Met.ofW (cc := cX3_isSeal) (maxL := 2) (ret := (some .boolean)) (by decide) rfl ?_
  intro p e s m args below meth c s₁ B hml hv
  obtain ⟨rfl, hv⟩ := hv
  have hsz := hv.1
  subst hsz
  have hN := hv.2.2
  have hE := mP_E hv
  have hx := B.exec
  have hb := B.bytes
  have hr := B.returns
  have hts := atoms_spec (ws := wsX3_isSeal) B.pre
  have hown : s.vm.findClass RX3 = some m.cls := findClass_of_methodNamed B.named
  have hlocks := B.notSynchronized
  have hiX3 : ∀ w ∈ wsX30, w ∈ wsX3_isSeal := by decide +kernel
  have hl := lv_entry ([.ref (ad 4), .int (nI j)]) (n := 2) (Nat.le_of_ble_eq_true rfl)
  rw [lg_entry_eq]
  generalize (lg_sl ([.ref (ad 4), .int (nI j)]) ++ List.replicate (2 - (lg_sl ([.ref (ad 4), .int (nI j)])).length) Slot.unset).toArray = ls at hl ⊢
  have hl : lv_has ls 2 [(0, .ref (ad 4)), (1, .int (nI j))] := hl
  refine lv_iload_n hx hb dX3_isSeal_0 rfl (lv_at hl 1 rfl) ?_
  refine lv_iconst (v := nI 0) hx hb dX3_isSeal_1 (by decide) ?_
  refine lv_aload_n hx hb dX3_isSeal_2 rfl (lv_at hl 0 rfl) ?_
  refine va_get (D := G) (ci := 3) (v := .int (nI k)) (C := RX3) (T := TX3) (N := 11) hx hb hts hiX3 hown hN.1 (mE_P1 hE (S_4f rfl hm1 hm2 rfl)) 0 rfl rfl 2 (by decide) (hts (.fieldLink RX3 42 "SealedCupboardsModel" "seals" "I") (by decide +kernel)) (fun _ h9 => h9) rfl dX3_isSeal_3 ?_
  refine lv_iconst (v := nI 1) hx hb dX3_isSeal_6 (by decide) ?_
  refine mv_isub (z := nI (k - 1)) hx hb (pk_sub (by omega)) dX3_isSeal_7 ?_
  refine va_calli (va_runS (As := [.int (nI j), .int (nI 0), .int (nI (k - 1))]) (rest := []) ⟨hx, hb, hml, hown, hts⟩ (c_X3_isIn l G cy ad (Sy cy ad cn ck v o) _ j 0 (k - 1) (by omega) (by omega) (by omega)) (va_cwS 3 hts gX3_isSeal_X3_isIn rfl rfl rfl (by decide +kernel) ⟨Nat.le_of_ble_eq_true rfl, Nat.le_of_ble_eq_true rfl⟩) (mP_S hN hE) rfl rfl hl.1 rfl (lv_room (Nat.le_of_ble_eq_true rfl)) dX3_isSeal_8 ⟨Nat.le_of_ble_eq_true rfl, Nat.le_of_ble_eq_true rfl⟩) hE.2.2.2 (fun q _ h => mE_A hE q h) (mE_A hE) (fun r uq tq H locs ht hvm hw hB hz1 hk1 hS => ?_)
  obtain ⟨rfl, rfl⟩ := hw
  have hE : mE G (mA ad (Sy cy ad cn ck v o) s.heap.size) s.heap ad (Sy cy ad cn ck v o) H locs := mE_call hE hB ht hS
  exact mx_zret hx hb hr rfl hE hlocks ⟨rfl, rfl⟩ dX3_isSeal_11

set_option maxHeartbeats 4000000 in
set_option maxRecDepth 100000 in
/-- isSeal -/
theorem x_X3_isSeal (l : Launch) (G : va_G) (cy : Nat → ClassId) (ad : Nat → Nat) (cn ck n k : Nat) (v : Nat → Nat → Int32) (o : Nat → Int64) (hn : n ≤ 6) (hk : k ≤ 20) (sz : Nat) (hm1 : v 4 1 = nI n) (hm2 : v 4 2 = nI k) (x : Int32) (hbad : x < 0 ∨ nI k ≤ x) : mMi l yX3_isSeal wsX3_isSeal ({ frames := 8, cells := 0, slots := 0, locals := 140 }) G cy ad (Sy cy ad cn ck v o) sz [.ref (ad 4), .int x] 0 0 (fun (r : Int32) u => r = nI 0 ∧ u = (ad, Sy cy ad cn ck v o)) := by
  refine Met.ofW (cc := cX3_isSeal) (maxL := 2) (ret := (some .boolean)) (by decide) rfl ?_
  intro p e s m args below meth c s₁ B hml hv
  obtain ⟨rfl, hv⟩ := hv
  have hsz := hv.1
  subst hsz
  have hN := hv.2.2
  have hE := mP_E hv
  have hx := B.exec
  have hb := B.bytes
  have hr := B.returns
  have hts := atoms_spec (ws := wsX3_isSeal) B.pre
  have hown : s.vm.findClass RX3 = some m.cls := findClass_of_methodNamed B.named
  have hlocks := B.notSynchronized
  have hiX3 : ∀ w ∈ wsX30, w ∈ wsX3_isSeal := by decide +kernel
  have hl := lv_entry ([.ref (ad 4), .int x]) (n := 2) (Nat.le_of_ble_eq_true rfl)
  rw [lg_entry_eq]
  generalize (lg_sl ([.ref (ad 4), .int x]) ++ List.replicate (2 - (lg_sl ([.ref (ad 4), .int x])).length) Slot.unset).toArray = ls at hl ⊢
  have hl : lv_has ls 2 [(0, .ref (ad 4)), (1, .int x)] := hl
  refine lv_iload_n hx hb dX3_isSeal_0 rfl (lv_at hl 1 rfl) ?_
  refine lv_iconst (v := nI 0) hx hb dX3_isSeal_1 (by decide) ?_
  refine lv_aload_n hx hb dX3_isSeal_2 rfl (lv_at hl 0 rfl) ?_
  refine va_get (D := G) (ci := 3) (v := .int (nI k)) (C := RX3) (T := TX3) (N := 11) hx hb hts hiX3 hown hN.1 (mE_P1 hE (S_4f rfl hm1 hm2 rfl)) 0 rfl rfl 2 (by decide) (hts (.fieldLink RX3 42 "SealedCupboardsModel" "seals" "I") (by decide +kernel)) (fun _ h9 => h9) rfl dX3_isSeal_3 ?_
  refine lv_iconst (v := nI 1) hx hb dX3_isSeal_6 (by decide) ?_
  refine mv_isub (z := nI k - nI 1) hx hb rfl dX3_isSeal_7 ?_
  refine va_calli (va_runS (As := [.int x, .int (nI 0), .int (nI k - nI 1)]) (rest := []) ⟨hx, hb, hml, hown, hts⟩ (x_X3_isIn l G cy ad (Sy cy ad cn ck v o) _ x (nI 0) (nI k - nI 1) (mi_bad1 (by omega) hbad)) (va_cwS 3 hts gX3_isSeal_X3_isIn rfl rfl rfl (by decide +kernel) ⟨Nat.le_of_ble_eq_true rfl, Nat.le_of_ble_eq_true rfl⟩) (mP_S hN hE) rfl rfl hl.1 rfl (lv_room (Nat.le_of_ble_eq_true rfl)) dX3_isSeal_8 ⟨Nat.le_of_ble_eq_true rfl, Nat.le_of_ble_eq_true rfl⟩) hE.2.2.2 (fun q _ h => mE_A hE q h) (mE_A hE) (fun r uq tq H locs ht hvm hw hB hz1 hk1 hS => ?_)
  obtain ⟨rfl, rfl⟩ := hw
  have hE : mE G (mA ad (Sy cy ad cn ck v o) s.heap.size) s.heap ad (Sy cy ad cn ck v o) H locs := mE_call hE hB ht hS
  exact mx_zret hx hb hr rfl hE hlocks ⟨rfl, rfl⟩ dX3_isSeal_11

set_option maxHeartbeats 4000000 in
set_option maxRecDepth 100000 in
/-- th -/
theorem c_X3_th (l : Launch) (G : va_G) (cy : Nat → ClassId) (ad : Nat → Nat) (cn ck n k : Nat) (v : Nat → Nat → Int32) (o : Nat → Int64) (hn : n ≤ 6) (hk : k ≤ 20) (sz : Nat) (hm1 : v 4 1 = nI n) (hm2 : v 4 2 = nI k) (i d : Nat) (h_i : i < n) (hd : d < 16) {f5 : Nat → Int32} (h5 : v 5 = f5) : mMi l yX3_th wsX3_th ({ frames := 7, cells := 0, slots := 0, locals := 100 }) G cy ad (Sy cy ad cn ck v o) sz [.ref (ad 4), .int (nI i), .int (nI d)] 0 0 (fun (r : Int32) u => r = f5 (16 * i + d) ∧ u = (ad, Sy cy ad cn ck v o)) := by
  refine Met.ofW (cc := cX3_th) (maxL := 3) (ret := (some .int)) (by decide) rfl ?_
  intro p e s m args below meth c s₁ B hml hv
  obtain ⟨rfl, hv⟩ := hv
  have hsz := hv.1
  subst hsz
  have hN := hv.2.2
  have hE := mP_E hv
  have hx := B.exec
  have hb := B.bytes
  have hr := B.returns
  have hts := atoms_spec (ws := wsX3_th) B.pre
  have hown : s.vm.findClass RX3 = some m.cls := findClass_of_methodNamed B.named
  have hlocks := B.notSynchronized
  have hiX3 : ∀ w ∈ wsX30, w ∈ wsX3_th := by decide +kernel
  have hl := lv_entry ([.ref (ad 4), .int (nI i), .int (nI d)]) (n := 3) (Nat.le_of_ble_eq_true rfl)
  rw [lg_entry_eq]
  generalize (lg_sl ([.ref (ad 4), .int (nI i), .int (nI d)]) ++ List.replicate (3 - (lg_sl ([.ref (ad 4), .int (nI i), .int (nI d)])).length) Slot.unset).toArray = ls at hl ⊢
  have hl : lv_has ls 3 [(0, .ref (ad 4)), (1, .int (nI i)), (2, .int (nI d))] := hl
  refine lv_aload_n hx hb dX3_th_0 rfl (lv_at hl 0 rfl) ?_
  refine va_get (D := G) (ci := 3) (v := .ref (ad 5)) (C := RX3) (T := TX3) (N := 11) hx hb hts hiX3 hown hN.1 (mE_P1 hE (S_4f rfl hm1 hm2 rfl)) 0 rfl rfl 3 (by decide) (hts (.fieldLink RX3 9 "SealedCupboardsModel" "things" "[I") (by decide +kernel)) (fun _ h9 => h9) rfl dX3_th_1 ?_
  refine lv_bipush (v := nI 16) hx hb dX3_th_4 (by decide) ?_
  refine lv_iload_n hx hb dX3_th_6 rfl (lv_at hl 1 rfl) ?_
  refine mv_imul (z := nI (16 * i)) hx hb (pk_mul _ _) dX3_th_7 ?_
  refine lv_iload_n hx hb dX3_th_8 rfl (lv_at hl 2 rfl) ?_
  refine mv_iadd (z := nI ((16 * i) + d)) hx hb (nI_add _ _) dX3_th_9 ?_
  refine mx_iald hx hb hN hE (S_5e h5) (j := (16 * i) + d) rfl (by omega) (by decide) dX3_th_10 ?_
  exact mx_iret hx hb hr hE hlocks ⟨rfl, rfl⟩ dX3_th_11

set_option maxHeartbeats 4000000 in
set_option maxRecDepth 100000 in
/-- beside -/
theorem c_X3_beside (l : Launch) (G : va_G) (cy : Nat → ClassId) (ad : Nat → Nat) (M : mC) (sz : Nat) (d t9 : Nat) (hd : d < 16) (ht9 : t9 < 4) : mMi l yX3_beside wsX3_beside ({ frames := 7, cells := 0, slots := 0, locals := 100 }) G cy ad (M) sz [.int (nI d), .int (nI t9)] 0 0 (fun (r : Int32) u => r = nI (mBes d t9) ∧ u = (ad, M)) := by
  refine Met.ofW (cc := cX3_beside) (maxL := 4) (ret := (some .int)) (by decide) rfl ?_
  intro p e s m args below meth c s₁ B hml hv
  obtain ⟨rfl, hv⟩ := hv
  have hsz := hv.1
  subst hsz
  have hN := hv.2.2
  have hE := mP_E hv
  have hx := B.exec
  have hb := B.bytes
  have hr := B.returns
  have hts := atoms_spec (ws := wsX3_beside) B.pre
  have hown : s.vm.findClass RX3 = some m.cls := findClass_of_methodNamed B.named
  have hlocks := B.notSynchronized
  have hl := lv_entry ([.int (nI d), .int (nI t9)]) (n := 4) (Nat.le_of_ble_eq_true rfl)
  rw [lg_entry_eq]
  generalize (lg_sl ([.int (nI d), .int (nI t9)]) ++ List.replicate (4 - (lg_sl ([.int (nI d), .int (nI t9)])).length) Slot.unset).toArray = ls at hl ⊢
  have hl : lv_has ls 4 [(0, .int (nI d)), (1, .int (nI t9))] := hl
  refine lv_bipush (v := nI 16) hx hb dX3_beside_0 (by decide) ?_
  refine lv_iload_n hx hb dX3_beside_2 rfl (lv_at hl 0 rfl) ?_
  refine mv_iadd (z := nI (16 + d)) hx hb (nI_add _ _) dX3_beside_3 ?_
  refine lv_istore_n (lv' := [(2, .int (nI (16 + d))), (0, .int (nI d)), (1, .int (nI t9))]) hx hb dX3_beside_4 rfl hl (by decide) rfl (fun ls hl => ?_)
  refine lv_iconst (v := nI 0) hx hb dX3_beside_5 (by decide) ?_
  refine lv_istore_n (lv' := [(3, .int (nI 0)), (2, .int (nI (16 + d))), (0, .int (nI d)), (1, .int (nI t9))]) hx hb dX3_beside_6 rfl hl (by decide) rfl (fun ls hl => ?_)
  rw [show 16 + d = (16 + d) / 2 ^ 0 from (Nat.div_one _).symm] at hl
  refine mx_loop (β := Nat) (fun n9 (z9 : Nat) H locs ls => n9 = t9 - z9 ∧ (z9 ≤ t9) ∧ mE G (mA ad (M) s.heap.size) s.heap ad (M) H locs ∧ lv_has ls 4 [(3, .int (nI z9)), (2, .int (nI ((16 + d) / 2 ^ z9))), (0, .int (nI d)), (1, .int (nI t9))]) ?_ (t9 - 0) (0) _ _ _ ⟨rfl, (by omega), hE, lv_sub hl [0, 1, 2, 3] rfl⟩
  intro n9 z9 H locs ls hI ih1
  obtain ⟨hn2, hle, hE, hl⟩ := hI
  have hlt : (16 + d) / 2 ^ z9 ≤ 16 + d := Nat.div_le_self _ _
  have hE : mE G (mA ad (M) s.heap.size) s.heap ad (M) H locs := hE
  have hl : lv_has ls 4 [(3, .int (nI z9)), (2, .int (nI ((16 + d) / 2 ^ z9))), (0, .int (nI d)), (1, .int (nI t9))] := hl
  refine lv_iload_n hx hb dX3_beside_7 rfl (lv_at hl 0 rfl) ?_
  refine lv_iload_n hx hb dX3_beside_8 rfl (lv_at hl 3 rfl) ?_
  refine mv_ge (tgt := 22) hx hb (by omega) (by omega) dX3_beside_9 (by decide) (fun c3 => ?_) (fun c3 => ?_)
  · skip
    have e9 : z9 = t9 := by omega
    subst e9
    have hl : lv_has ls 4 [(3, .int (nI z9)), (2, .int (nI ((16 + d) / 2 ^ z9))), (0, .int (nI d)), (1, .int (nI z9))] := hl
    refine lv_iload_n hx hb dX3_beside_22 rfl (lv_at hl 1 rfl) ?_
    refine lv_iconst (v := nI 2) hx hb dX3_beside_23 (by decide) ?_
    refine mv_irem (z := nI (((16 + d) / 2 ^ z9) % 2)) hx hb (by decide) (pk_rem (by omega) (by omega) (by omega)) dX3_beside_24 ?_
    refine lv_if_ne (tgt := 34) hx hb dX3_beside_25 (by decide) (fun c4 => ?_) (fun c4 => ?_)
    · skip
      have c4 : ¬ (((16 + d) / 2 ^ z9) % 2) = 0 := fun h9 => c4 ((mz_eq (by omega)).mpr h9)
      have hpos : 1 ≤ (16 + d) / 2 ^ z9 := Nat.pos_of_ne_zero (fun h9 => c4 (by rw [h9]))
      refine lv_iload_n hx hb dX3_beside_34 rfl (lv_at hl 1 rfl) ?_
      refine lv_iconst (v := nI 1) hx hb dX3_beside_35 (by decide) ?_
      refine mv_isub (z := nI ((16 + d) / 2 ^ z9 - 1)) hx hb (pk_sub hpos) dX3_beside_36 ?_
      exact mx_iret hx hb hr hE hlocks ⟨(congrArg nI (if_neg c4)).symm, rfl⟩ dX3_beside_37
    · skip
      have c4 := (mz_eq (by omega)).mp c4
      refine lv_iload_n hx hb dX3_beside_28 rfl (lv_at hl 1 rfl) ?_
      refine lv_iconst (v := nI 1) hx hb dX3_beside_29 (by decide) ?_
      refine mv_iadd (z := nI (((16 + d) / 2 ^ z9) + 1)) hx hb (nI_add _ _) dX3_beside_30 ?_
      refine lv_goto (tgt := 37) hx hb dX3_beside_31 (by decide) ?_
      exact mx_iret hx hb hr hE hlocks ⟨(congrArg nI (if_pos c4)).symm, rfl⟩ dX3_beside_37
  · skip
    refine lv_iload_n hx hb dX3_beside_12 rfl (lv_at hl 1 rfl) ?_
    refine lv_iconst (v := nI 2) hx hb dX3_beside_13 (by decide) ?_
    refine mv_idiv (z := nI ((16 + d) / 2 ^ (z9 + 1))) hx hb (by decide) ((pk_div (by omega) (by omega) (by omega)).trans (congrArg nI (by rw [Nat.div_div_eq_div_mul, Nat.pow_succ]))) dX3_beside_14 ?_
    refine lv_istore_n (lv' := [(2, .int (nI ((16 + d) / 2 ^ (z9 + 1)))), (3, .int (nI z9)), (0, .int (nI d)), (1, .int (nI t9))]) hx hb dX3_beside_15 rfl hl (by decide) rfl (fun ls hl => ?_)
    refine lv_iinc (v := nI (z9 + 1)) (lv' := [(3, .int (nI (z9 + 1))), (2, .int (nI ((16 + d) / 2 ^ (z9 + 1)))), (0, .int (nI d)), (1, .int (nI t9))]) hx hb dX3_beside_16 hl (k := 1) rfl (nI_add _ _) (by decide) rfl (fun ls hl => ?_)
    refine lv_goto (tgt := 7) hx hb dX3_beside_19 (by decide) ?_
    exact ih1 (t9 - (z9 + 1)) (z9 + 1) _ _ _ (by rw [hn2]; omega) ⟨rfl, (by omega), hE, lv_sub hl [0, 1, 2, 3] rfl⟩

set_option maxHeartbeats 4000000 in
set_option maxRecDepth 100000 in
/-- up -/
theorem c_X3_up (l : Launch) (G : va_G) (cy : Nat → ClassId) (ad : Nat → Nat) (M : mC) (sz : Nat) (q : Nat) (x y : Int32) (hq : q < 32) : mMi l yX3_up wsX3_up ({ frames := 8, cells := 0, slots := 0, locals := 140 }) G cy ad (M) sz [.int (nI q), .int x, .int y] 0 0 (fun (r : Int32) u => r = mAbove q x y ∧ u = (ad, M)) := by
  refine Met.ofW (cc := cX3_up) (maxL := 3) (ret := (some .int)) (by decide) rfl ?_
  intro p e s m args below meth c s₁ B hml hv
  obtain ⟨rfl, hv⟩ := hv
  have hsz := hv.1
  subst hsz
  have hN := hv.2.2
  have hE := mP_E hv
  have hx := B.exec
  have hb := B.bytes
  have hr := B.returns
  have hts := atoms_spec (ws := wsX3_up) B.pre
  have hown : s.vm.findClass RX3 = some m.cls := findClass_of_methodNamed B.named
  have hlocks := B.notSynchronized
  have hl := lv_entry ([.int (nI q), .int x, .int y]) (n := 3) (Nat.le_of_ble_eq_true rfl)
  rw [lg_entry_eq]
  generalize (lg_sl ([.int (nI q), .int x, .int y]) ++ List.replicate (3 - (lg_sl ([.int (nI q), .int x, .int y])).length) Slot.unset).toArray = ls at hl ⊢
  have hl : lv_has ls 3 [(0, .int (nI q)), (1, .int x), (2, .int y)] := hl
  refine lv_iload_n hx hb dX3_up_0 rfl (lv_at hl 0 rfl) ?_
  refine lv_iconst (v := nI 2) hx hb dX3_up_1 (by decide) ?_
  refine mv_irem (z := nI (q % 2)) hx hb (by decide) (pk_rem (by omega) (by omega) (by omega)) dX3_up_2 ?_
  refine lv_if_ne (tgt := 17) hx hb dX3_up_3 (by decide) (fun c1 => ?_) (fun c1 => ?_)
  · skip
    have c1 : ¬ (q % 2) = 0 := fun h9 => c1 ((mz_eq (by omega)).mpr h9)
    refine lv_iload_n hx hb dX3_up_17 rfl (lv_at hl 2 rfl) ?_
    refine lv_iload_n hx hb dX3_up_18 rfl (lv_at hl 1 rfl) ?_
    refine lv_iload_n hx hb dX3_up_19 rfl (lv_at hl 0 rfl) ?_
    refine lv_iconst (v := nI 2) hx hb dX3_up_20 (by decide) ?_
    refine mv_idiv (z := nI (q / 2)) hx hb (by decide) (pk_div (by omega) (by omega) (by omega)) dX3_up_21 ?_
    refine va_calli (va_runS (As := [.int y, .int x, .int (nI (q / 2))]) (rest := []) ⟨hx, hb, hml, hown, hts⟩ (c_X3_join l G cy ad M _ y x (nI (q / 2))) (va_cwS 3 hts gX3_up_X3_join rfl rfl rfl (by decide +kernel) ⟨Nat.le_of_ble_eq_true rfl, Nat.le_of_ble_eq_true rfl⟩) (mP_S hN hE) rfl rfl hl.1 rfl (lv_room (Nat.le_of_ble_eq_true rfl)) dX3_up_22 ⟨Nat.le_of_ble_eq_true rfl, Nat.le_of_ble_eq_true rfl⟩) hE.2.2.2 (fun q _ h => mE_A hE q h) (mE_A hE) (fun r uq tq H locs ht hvm hw hB hz1 hk1 hS => ?_)
    obtain ⟨rfl, rfl⟩ := hw
    have hE : mE G (mA ad (M) s.heap.size) s.heap ad (M) H locs := mE_call hE hB ht hS
    exact mx_iret hx hb hr hE hlocks ⟨(if_neg (by omega)).symm, rfl⟩ dX3_up_25
  · skip
    have c1 := (mz_eq (by omega)).mp c1
    refine lv_iload_n hx hb dX3_up_6 rfl (lv_at hl 1 rfl) ?_
    refine lv_iload_n hx hb dX3_up_7 rfl (lv_at hl 2 rfl) ?_
    refine lv_iload_n hx hb dX3_up_8 rfl (lv_at hl 0 rfl) ?_
    refine lv_iconst (v := nI 2) hx hb dX3_up_9 (by decide) ?_
    refine mv_idiv (z := nI (q / 2)) hx hb (by decide) (pk_div (by omega) (by omega) (by omega)) dX3_up_10 ?_
    refine va_calli (va_runS (As := [.int x, .int y, .int (nI (q / 2))]) (rest := []) ⟨hx, hb, hml, hown, hts⟩ (c_X3_join l G cy ad M _ x y (nI (q / 2))) (va_cwS 3 hts gX3_up_X3_join rfl rfl rfl (by decide +kernel) ⟨Nat.le_of_ble_eq_true rfl, Nat.le_of_ble_eq_true rfl⟩) (mP_S hN hE) rfl rfl hl.1 rfl (lv_room (Nat.le_of_ble_eq_true rfl)) dX3_up_11 ⟨Nat.le_of_ble_eq_true rfl, Nat.le_of_ble_eq_true rfl⟩) hE.2.2.2 (fun q _ h => mE_A hE q h) (mE_A hE) (fun r uq tq H locs ht hvm hw hB hz1 hk1 hS => ?_)
    obtain ⟨rfl, rfl⟩ := hw
    have hE : mE G (mA ad (M) s.heap.size) s.heap ad (M) H locs := mE_call hE hB ht hS
    refine lv_goto (tgt := 25) hx hb dX3_up_14 (by decide) ?_
    exact mx_iret hx hb hr hE hlocks ⟨(if_pos (by omega)).symm, rfl⟩ dX3_up_25

set_option maxHeartbeats 4000000 in
set_option maxRecDepth 100000 in
/-- way -/
theorem c_X3_way (l : Launch) (G : va_G) (cy : Nat → ClassId) (ad : Nat → Nat) (M : mC) (sz : Nat) (d : Nat) (x a1 a2 a3 a4 : Int32) (hd : d < 16) : mMi l yX3_way wsX3_way ({ frames := 9, cells := 0, slots := 0, locals := 180 }) G cy ad (M) sz [.int (nI d), .int x, .int a1, .int a2, .int a3, .int a4] 0 0 (fun (r : Int32) u => r = mComes d x a1 a2 a3 a4 ∧ u = (ad, M)) := by
  refine Met.ofW (cc := cX3_way) (maxL := 8) (ret := (some .int)) (by decide) rfl ?_
  intro p e s m args below meth c s₁ B hml hv
  obtain ⟨rfl, hv⟩ := hv
  have hsz := hv.1
  subst hsz
  have hN := hv.2.2
  have hE := mP_E hv
  have hx := B.exec
  have hb := B.bytes
  have hr := B.returns
  have hts := atoms_spec (ws := wsX3_way) B.pre
  have hown : s.vm.findClass RX3 = some m.cls := findClass_of_methodNamed B.named
  have hlocks := B.notSynchronized
  have hl := lv_entry ([.int (nI d), .int x, .int a1, .int a2, .int a3, .int a4]) (n := 8) (Nat.le_of_ble_eq_true rfl)
  rw [lg_entry_eq]
  generalize (lg_sl ([.int (nI d), .int x, .int a1, .int a2, .int a3, .int a4]) ++ List.replicate (8 - (lg_sl ([.int (nI d), .int x, .int a1, .int a2, .int a3, .int a4])).length) Slot.unset).toArray = ls at hl ⊢
  have hl : lv_has ls 8 [(0, .int (nI d)), (1, .int x), (2, .int a1), (3, .int a2), (4, .int a3), (5, .int a4)] := hl
  refine lv_bipush (v := nI 16) hx hb dX3_way_0 (by decide) ?_
  refine lv_iload_n hx hb dX3_way_2 rfl (lv_at hl 0 rfl) ?_
  refine mv_iadd (z := nI (16 + d)) hx hb (nI_add _ _) dX3_way_3 ?_
  refine lv_istore (lv' := [(6, .int (nI (16 + d))), (0, .int (nI d)), (1, .int x), (2, .int a1), (3, .int a2), (4, .int a3), (5, .int a4)]) hx hb dX3_way_4 hl (by decide) rfl (fun ls hl => ?_)
  refine lv_iload hx hb dX3_way_6 (lv_at hl 0 rfl) ?_
  refine lv_iload_n hx hb dX3_way_8 rfl (lv_at hl 1 rfl) ?_
  refine lv_iload_n hx hb dX3_way_9 rfl (lv_at hl 2 rfl) ?_
  refine va_calli (va_runS (As := [.int (nI d), .int x]) (rest := [.int (nI (16 + d))]) ⟨hx, hb, hml, hown, hts⟩ (c_X3_leaf l G cy ad M _ (nI d) x) (va_cwS 2 hts gX3_way_X3_leaf rfl rfl rfl (by decide +kernel) ⟨Nat.le_of_ble_eq_true rfl, Nat.le_of_ble_eq_true rfl⟩) (mP_S hN hE) rfl rfl hl.1 rfl (lv_room (Nat.le_of_ble_eq_true rfl)) dX3_way_10 ⟨Nat.le_of_ble_eq_true rfl, Nat.le_of_ble_eq_true rfl⟩) hE.2.2.2 (fun q _ h => mE_A hE q h) (mE_A hE) (fun r uq tq H locs ht hvm hw hB hz1 hk1 hS => ?_)
  obtain ⟨rfl, rfl⟩ := hw
  have hE : mE G (mA ad (M) s.heap.size) s.heap ad (M) H locs := mE_call hE hB ht hS
  refine lv_iload_n hx hb dX3_way_13 rfl (lv_at hl 3 rfl) ?_
  refine va_calli (va_runS (As := [.int (nI (16 + d)), .int (mLeaf (nI d) x), .int a1]) (rest := []) ⟨hx, hb, hml, hown, hts⟩ (c_X3_up l G cy ad M _ (16 + d) (mLeaf (nI d) x) a1 (by omega)) (va_cwS 3 hts gX3_way_X3_up rfl rfl rfl (by decide +kernel) ⟨Nat.le_of_ble_eq_true rfl, Nat.le_of_ble_eq_true rfl⟩) (mP_S hN hE) rfl rfl hl.1 rfl (lv_room (Nat.le_of_ble_eq_true rfl)) dX3_way_14 ⟨Nat.le_of_ble_eq_true rfl, Nat.le_of_ble_eq_true rfl⟩) hE.2.2.2 (fun q _ h => mE_A hE q h) (mE_A hE) (fun r uq tq H locs ht hvm hw hB hz1 hk1 hS => ?_)
  obtain ⟨rfl, rfl⟩ := hw
  have hE : mE G (mA ad (M) s.heap.size) s.heap ad (M) H locs := mE_call hE hB ht hS
  refine lv_istore (lv' := [(7, .int (mAbove (16 + d) (mLeaf (nI d) x) a1)), (6, .int (nI (16 + d))), (0, .int (nI d)), (1, .int x), (2, .int a1), (3, .int a2), (4, .int a3), (5, .int a4)]) hx hb dX3_way_17 hl (by decide) rfl (fun ls hl => ?_)
  refine lv_iload hx hb dX3_way_19 (lv_at hl 1 rfl) ?_
  refine lv_iconst (v := nI 2) hx hb dX3_way_21 (by decide) ?_
  refine mv_idiv (z := nI ((16 + d) / 2)) hx hb (by decide) (pk_div (by omega) (by omega) (by omega)) dX3_way_22 ?_
  refine lv_iload hx hb dX3_way_23 (lv_at hl 0 rfl) ?_
  refine lv_iload_n hx hb dX3_way_25 rfl (lv_at hl 5 rfl) ?_
  refine va_calli (va_runS (As := [.int (nI ((16 + d) / 2)), .int (mAbove (16 + d) (mLeaf (nI d) x) a1), .int a2]) (rest := []) ⟨hx, hb, hml, hown, hts⟩ (c_X3_up l G cy ad M _ ((16 + d) / 2) (mAbove (16 + d) (mLeaf (nI d) x) a1) a2 (by omega)) (va_cwS 3 hts gX3_way_X3_up rfl rfl rfl (by decide +kernel) ⟨Nat.le_of_ble_eq_true rfl, Nat.le_of_ble_eq_true rfl⟩) (mP_S hN hE) rfl rfl hl.1 rfl (lv_room (Nat.le_of_ble_eq_true rfl)) dX3_way_26 ⟨Nat.le_of_ble_eq_true rfl, Nat.le_of_ble_eq_true rfl⟩) hE.2.2.2 (fun q _ h => mE_A hE q h) (mE_A hE) (fun r uq tq H locs ht hvm hw hB hz1 hk1 hS => ?_)
  obtain ⟨rfl, rfl⟩ := hw
  have hE : mE G (mA ad (M) s.heap.size) s.heap ad (M) H locs := mE_call hE hB ht hS
  refine lv_istore (lv' := [(7, .int (mAbove ((16 + d) / 2) (mAbove (16 + d) (mLeaf (nI d) x) a1) a2)), (6, .int (nI (16 + d))), (0, .int (nI d)), (1, .int x), (2, .int a1), (3, .int a2), (4, .int a3), (5, .int a4)]) hx hb dX3_way_29 hl (by decide) rfl (fun ls hl => ?_)
  refine lv_iload hx hb dX3_way_31 (lv_at hl 1 rfl) ?_
  refine lv_iconst (v := nI 4) hx hb dX3_way_33 (by decide) ?_
  refine mv_idiv (z := nI ((16 + d) / 4)) hx hb (by decide) (pk_div (by omega) (by omega) (by omega)) dX3_way_34 ?_
  refine lv_iload hx hb dX3_way_35 (lv_at hl 0 rfl) ?_
  refine lv_iload hx hb dX3_way_37 (lv_at hl 6 rfl) ?_
  refine va_calli (va_runS (As := [.int (nI ((16 + d) / 4)), .int (mAbove ((16 + d) / 2) (mAbove (16 + d) (mLeaf (nI d) x) a1) a2), .int a3]) (rest := []) ⟨hx, hb, hml, hown, hts⟩ (c_X3_up l G cy ad M _ ((16 + d) / 4) (mAbove ((16 + d) / 2) (mAbove (16 + d) (mLeaf (nI d) x) a1) a2) a3 (by omega)) (va_cwS 3 hts gX3_way_X3_up rfl rfl rfl (by decide +kernel) ⟨Nat.le_of_ble_eq_true rfl, Nat.le_of_ble_eq_true rfl⟩) (mP_S hN hE) rfl rfl hl.1 rfl (lv_room (Nat.le_of_ble_eq_true rfl)) dX3_way_39 ⟨Nat.le_of_ble_eq_true rfl, Nat.le_of_ble_eq_true rfl⟩) hE.2.2.2 (fun q _ h => mE_A hE q h) (mE_A hE) (fun r uq tq H locs ht hvm hw hB hz1 hk1 hS => ?_)
  obtain ⟨rfl, rfl⟩ := hw
  have hE : mE G (mA ad (M) s.heap.size) s.heap ad (M) H locs := mE_call hE hB ht hS
  refine lv_istore (lv' := [(7, .int (mAbove ((16 + d) / 4) (mAbove ((16 + d) / 2) (mAbove (16 + d) (mLeaf (nI d) x) a1) a2) a3)), (6, .int (nI (16 + d))), (0, .int (nI d)), (1, .int x), (2, .int a1), (3, .int a2), (4, .int a3), (5, .int a4)]) hx hb dX3_way_42 hl (by decide) rfl (fun ls hl => ?_)
  refine lv_iload hx hb dX3_way_44 (lv_at hl 1 rfl) ?_
  refine lv_bipush (v := nI 8) hx hb dX3_way_46 (by decide) ?_
  refine mv_idiv (z := nI ((16 + d) / 8)) hx hb (by decide) (pk_div (by omega) (by omega) (by omega)) dX3_way_48 ?_
  refine lv_iload hx hb dX3_way_49 (lv_at hl 0 rfl) ?_
  refine lv_iload hx hb dX3_way_51 (lv_at hl 7 rfl) ?_
  refine va_calli (va_runS (As := [.int (nI ((16 + d) / 8)), .int (mAbove ((16 + d) / 4) (mAbove ((16 + d) / 2) (mAbove (16 + d) (mLeaf (nI d) x) a1) a2) a3), .int a4]) (rest := []) ⟨hx, hb, hml, hown, hts⟩ (c_X3_up l G cy ad M _ ((16 + d) / 8) (mAbove ((16 + d) / 4) (mAbove ((16 + d) / 2) (mAbove (16 + d) (mLeaf (nI d) x) a1) a2) a3) a4 (by omega)) (va_cwS 3 hts gX3_way_X3_up rfl rfl rfl (by decide +kernel) ⟨Nat.le_of_ble_eq_true rfl, Nat.le_of_ble_eq_true rfl⟩) (mP_S hN hE) rfl rfl hl.1 rfl (lv_room (Nat.le_of_ble_eq_true rfl)) dX3_way_53 ⟨Nat.le_of_ble_eq_true rfl, Nat.le_of_ble_eq_true rfl⟩) hE.2.2.2 (fun q _ h => mE_A hE q h) (mE_A hE) (fun r uq tq H locs ht hvm hw hB hz1 hk1 hS => ?_)
  obtain ⟨rfl, rfl⟩ := hw
  have hE : mE G (mA ad (M) s.heap.size) s.heap ad (M) H locs := mE_call hE hB ht hS
  exact mx_iret hx hb hr hE hlocks ⟨rfl, rfl⟩ dX3_way_56
