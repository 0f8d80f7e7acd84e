set_option maxHeartbeats 4000000 in
set_option maxRecDepth 100000 in
/-- the sum at a place, 0 steps above the drawers -/
theorem c_X3_sum0 (l : Launch) (G : va_G) (cy : Nat → ClassId) (ad : Nat → Nat) (M : mC) (sz : Nat) (w q : Nat) (f : Nat → Int32) (hw0 : M w = some (mI cy 16 f)) (hq1 : 1 ≤ q) (hq2 : q < 32) (hq : mHt q ≤ 0) : mMi l yX3_sum wsX3_sum ({ frames := 7, cells := 0, slots := 0, locals := 100 }) G cy ad (M) sz [.ref (ad w), .int (nI q)] 0 0 (fun (r : Int32) u => r = mS f q ∧ u = (ad, M)) := by
  refine Met.ofW (cc := cX3_sum) (maxL := 2) (ret := (some .int)) (by decide) rfl ?_
  intro p e s m args below meth c s₁ B hml hv
  obtain ⟨rfl, hv⟩ := hv
  have hsz := hv.1
  subst hsz
  have hN := hv.2.2
  have hE := mP_E hv
  have hx := B.exec
  have hb := B.bytes
  have hr := B.returns
  have hts := atoms_spec (ws := wsX3_sum) B.pre
  have hown : s.vm.findClass RX3 = some m.cls := findClass_of_methodNamed B.named
  have hlocks := B.notSynchronized
  have hl := lv_entry ([.ref (ad w), .int (nI q)]) (n := 2) (Nat.le_of_ble_eq_true rfl)
  rw [lg_entry_eq]
  generalize (lg_sl ([.ref (ad w), .int (nI q)]) ++ List.replicate (2 - (lg_sl ([.ref (ad w), .int (nI q)])).length) Slot.unset).toArray = ls at hl ⊢
  have hl : lv_has ls 2 [(0, .ref (ad w)), (1, .int (nI q))] := hl
  have hq16 := jHt_0 (Nat.le_zero.mp hq)
  refine lv_iload_n hx hb dX3_sum_0 rfl (lv_at hl 1 rfl) ?_
  refine lv_bipush (v := nI 15) hx hb dX3_sum_1 (by decide) ?_
  refine mv_le (tgt := 28) hx hb (by omega) (by omega) dX3_sum_3 (by decide) (fun c1 => ?_) (fun c1 => ?_)
  · skip
    exfalso; omega
  · skip
    refine lv_bipush (v := nI 37) hx hb dX3_sum_6 (by decide) ?_
    refine lv_aload_n hx hb dX3_sum_8 rfl (lv_at hl 0 rfl) ?_
    refine lv_iload_n hx hb dX3_sum_9 rfl (lv_at hl 1 rfl) ?_
    refine lv_bipush (v := nI 16) hx hb dX3_sum_10 (by decide) ?_
    refine mv_isub (z := nI (q - 16)) hx hb (pk_sub (by omega)) dX3_sum_12 ?_
    refine mx_iald hx hb hN hE hw0 (j := q - 16) rfl (by omega) (by decide) dX3_sum_13 ?_
    refine mv_imul (z := (nI 37) * (f (q - 16))) hx hb rfl dX3_sum_14 ?_
    refine lv_bipush (v := nI 101) hx hb dX3_sum_15 (by decide) ?_
    refine lv_iload_n hx hb dX3_sum_17 rfl (lv_at hl 1 rfl) ?_
    refine lv_bipush (v := nI 15) hx hb dX3_sum_18 (by decide) ?_
    refine mv_isub (z := nI (q - 16) + nI 1) hx hb (by rw [nI_add, pk_sub (by omega), show q - 15 = q - 16 + 1 by omega]) dX3_sum_20 ?_
    refine mv_imul (z := (nI 101) * (nI (q - 16) + nI 1)) hx hb rfl dX3_sum_21 ?_
    refine mv_iadd (z := ((nI 37) * (f (q - 16))) + ((nI 101) * (nI (q - 16) + nI 1))) hx hb rfl dX3_sum_22 ?_
    refine lv_sipush (v := nI 997) hx hb dX3_sum_23 (by decide) ?_
    refine mv_irem (z := mMod (((nI 37) * (f (q - 16))) + ((nI 101) * (nI (q - 16) + nI 1)))) hx hb (by decide) rfl dX3_sum_26 ?_
    exact mx_iret hx hb hr hE hlocks ⟨(jS_leaf f (by omega)).symm, rfl⟩ dX3_sum_27

set_option maxHeartbeats 4000000 in
set_option maxRecDepth 100000 in
/-- the sum at a place, 1 steps above the drawers -/
theorem c_X3_sum1 (l : Launch) (G : va_G) (cy : Nat → ClassId) (ad : Nat → Nat) (M : mC) (sz : Nat) (w q : Nat) (f : Nat → Int32) (hw0 : M w = some (mI cy 16 f)) (hq1 : 1 ≤ q) (hq2 : q < 32) (hq : mHt q ≤ 1) : mMi l yX3_sum wsX3_sum ({ frames := 8, cells := 0, slots := 0, locals := 140 }) G cy ad (M) sz [.ref (ad w), .int (nI q)] 0 0 (fun (r : Int32) u => r = mS f q ∧ u = (ad, M)) := by
  refine Met.ofW (cc := cX3_sum) (maxL := 2) (ret := (some .int)) (by decide) rfl ?_
  intro p e s m args below meth c s₁ B hml hv
  obtain ⟨rfl, hv⟩ := hv
  have hsz := hv.1
  subst hsz
  have hN := hv.2.2
  have hE := mP_E hv
  have hx := B.exec
  have hb := B.bytes
  have hr := B.returns
  have hts := atoms_spec (ws := wsX3_sum) B.pre
  have hown : s.vm.findClass RX3 = some m.cls := findClass_of_methodNamed B.named
  have hlocks := B.notSynchronized
  have hl := lv_entry ([.ref (ad w), .int (nI q)]) (n := 2) (Nat.le_of_ble_eq_true rfl)
  rw [lg_entry_eq]
  generalize (lg_sl ([.ref (ad w), .int (nI q)]) ++ List.replicate (2 - (lg_sl ([.ref (ad w), .int (nI q)])).length) Slot.unset).toArray = ls at hl ⊢
  have hl : lv_has ls 2 [(0, .ref (ad w)), (1, .int (nI q))] := hl
  have hst := mHt_step q
  refine lv_iload_n hx hb dX3_sum_0 rfl (lv_at hl 1 rfl) ?_
  refine lv_bipush (v := nI 15) hx hb dX3_sum_1 (by decide) ?_
  refine mv_le (tgt := 28) hx hb (by omega) (by omega) dX3_sum_3 (by decide) (fun c1 => ?_) (fun c1 => ?_)
  · skip
    refine lv_bipush (v := nI 61) hx hb dX3_sum_28 (by decide) ?_
    refine lv_aload_n hx hb dX3_sum_30 rfl (lv_at hl 0 rfl) ?_
    refine lv_iconst (v := nI 2) hx hb dX3_sum_31 (by decide) ?_
    refine lv_iload_n hx hb dX3_sum_32 rfl (lv_at hl 1 rfl) ?_
    refine mv_imul (z := nI (2 * q)) hx hb (pk_mul _ _) dX3_sum_33 ?_
    refine va_calli (va_runS (As := [.ref (ad w), .int (nI (2 * q))]) (rest := [.int (nI 61)]) ⟨hx, hb, hml, hown, hts⟩ (c_X3_sum0 l G cy ad M _ w (2 * q) f hw0 (by omega) (by omega) (by have := hst (by omega) (by omega); omega)) (va_cwS 2 hts gX3_sum_X3_sum rfl rfl rfl (by decide +kernel) ⟨Nat.le_of_ble_eq_true rfl, Nat.le_of_ble_eq_true rfl⟩) (mP_S hN hE) rfl rfl hl.1 rfl (lv_room (Nat.le_of_ble_eq_true rfl)) dX3_sum_34 ⟨Nat.le_of_ble_eq_true rfl, Nat.le_of_ble_eq_true rfl⟩) hE.2.2.2 (fun q _ h => mE_A hE q h) (mE_A hE) (fun r uq tq H locs ht hvm hw hB hz1 hk1 hS => ?_)
    obtain ⟨rfl, rfl⟩ := hw
    have hE : mE G (mA ad (M) s.heap.size) s.heap ad (M) H locs := mE_call hE hB ht hS
    refine mv_imul (z := (nI 61) * (mS f (2 * q))) hx hb rfl dX3_sum_37 ?_
    refine lv_bipush (v := nI 89) hx hb dX3_sum_38 (by decide) ?_
    refine lv_aload_n hx hb dX3_sum_40 rfl (lv_at hl 0 rfl) ?_
    refine lv_iconst (v := nI 2) hx hb dX3_sum_41 (by decide) ?_
    refine lv_iload_n hx hb dX3_sum_42 rfl (lv_at hl 1 rfl) ?_
    refine mv_imul (z := nI (2 * q)) hx hb (pk_mul _ _) dX3_sum_43 ?_
    refine lv_iconst (v := nI 1) hx hb dX3_sum_44 (by decide) ?_
    refine mv_iadd (z := nI ((2 * q) + 1)) hx hb (nI_add _ _) dX3_sum_45 ?_
    refine va_calli (va_runS (As := [.ref (ad w), .int (nI ((2 * q) + 1))]) (rest := [.int (nI 89), .int ((nI 61) * (mS f (2 * q)))]) ⟨hx, hb, hml, hown, hts⟩ (c_X3_sum0 l G cy ad M _ w ((2 * q) + 1) f hw0 (by omega) (by omega) (by have := hst (by omega) (by omega); omega)) (va_cwS 2 hts gX3_sum_X3_sum rfl rfl rfl (by decide +kernel) ⟨Nat.le_of_ble_eq_true rfl, Nat.le_of_ble_eq_true rfl⟩) (mP_S hN hE) rfl rfl hl.1 rfl (lv_room (Nat.le_of_ble_eq_true rfl)) dX3_sum_46 ⟨Nat.le_of_ble_eq_true rfl, Nat.le_of_ble_eq_true rfl⟩) hE.2.2.2 (fun q _ h => mE_A hE q h) (mE_A hE) (fun r uq tq H locs ht hvm hw hB hz1 hk1 hS => ?_)
    obtain ⟨rfl, rfl⟩ := hw
    have hE : mE G (mA ad (M) s.heap.size) s.heap ad (M) H locs := mE_call hE hB ht hS
    refine mv_imul (z := (nI 89) * (mS f ((2 * q) + 1))) hx hb rfl dX3_sum_49 ?_
    refine mv_iadd (z := ((nI 61) * (mS f (2 * q))) + ((nI 89) * (mS f ((2 * q) + 1)))) hx hb rfl dX3_sum_50 ?_
    refine lv_iload_n hx hb dX3_sum_51 rfl (lv_at hl 1 rfl) ?_
    refine mv_iadd (z := (((nI 61) * (mS f (2 * q))) + ((nI 89) * (mS f ((2 * q) + 1)))) + (nI q)) hx hb rfl dX3_sum_52 ?_
    refine lv_sipush (v := nI 997) hx hb dX3_sum_53 (by decide) ?_
    refine mv_irem (z := mMod ((((nI 61) * (mS f (2 * q))) + ((nI 89) * (mS f ((2 * q) + 1)))) + (nI q))) hx hb (by decide) rfl dX3_sum_56 ?_
    exact mx_iret hx hb hr hE hlocks ⟨(mS_join f (by omega) (by omega)).symm, rfl⟩ dX3_sum_57
  · skip
    refine lv_bipush (v := nI 37) hx hb dX3_sum_6 (by decide) ?_
    refine lv_aload_n hx hb dX3_sum_8 rfl (lv_at hl 0 rfl) ?_
    refine lv_iload_n hx hb dX3_sum_9 rfl (lv_at hl 1 rfl) ?_
    refine lv_bipush (v := nI 16) hx hb dX3_sum_10 (by decide) ?_
    refine mv_isub (z := nI (q - 16)) hx hb (pk_sub (by omega)) dX3_sum_12 ?_
    refine mx_iald hx hb hN hE hw0 (j := q - 16) rfl (by omega) (by decide) dX3_sum_13 ?_
    refine mv_imul (z := (nI 37) * (f (q - 16))) hx hb rfl dX3_sum_14 ?_
    refine lv_bipush (v := nI 101) hx hb dX3_sum_15 (by decide) ?_
    refine lv_iload_n hx hb dX3_sum_17 rfl (lv_at hl 1 rfl) ?_
    refine lv_bipush (v := nI 15) hx hb dX3_sum_18 (by decide) ?_
    refine mv_isub (z := nI (q - 16) + nI 1) hx hb (by rw [nI_add, pk_sub (by omega), show q - 15 = q - 16 + 1 by omega]) dX3_sum_20 ?_
    refine mv_imul (z := (nI 101) * (nI (q - 16) + nI 1)) hx hb rfl dX3_sum_21 ?_
    refine mv_iadd (z := ((nI 37) * (f (q - 16))) + ((nI 101) * (nI (q - 16) + nI 1))) hx hb rfl dX3_sum_22 ?_
    refine lv_sipush (v := nI 997) hx hb dX3_sum_23 (by decide) ?_
    refine mv_irem (z := mMod (((nI 37) * (f (q - 16))) + ((nI 101) * (nI (q - 16) + nI 1)))) hx hb (by decide) rfl dX3_sum_26 ?_
    exact mx_iret hx hb hr hE hlocks ⟨(jS_leaf f (by omega)).symm, rfl⟩ dX3_sum_27

set_option maxHeartbeats 4000000 in
set_option maxRecDepth 100000 in
/-- the sum at a place, 2 steps above the drawers -/
theorem c_X3_sum2 (l : Launch) (G : va_G) (cy : Nat → ClassId) (ad : Nat → Nat) (M : mC) (sz : Nat) (w q : Nat) (f : Nat → Int32) (hw0 : M w = some (mI cy 16 f)) (hq1 : 1 ≤ q) (hq2 : q < 32) (hq : mHt q ≤ 2) : mMi l yX3_sum wsX3_sum ({ frames := 9, cells := 0, slots := 0, locals := 180 }) G cy ad (M) sz [.ref (ad w), .int (nI q)] 0 0 (fun (r : Int32) u => r = mS f q ∧ u = (ad, M)) := by
  refine Met.ofW (cc := cX3_sum) (maxL := 2) (ret := (some .int)) (by decide) rfl ?_
  intro p e s m args below meth c s₁ B hml hv
  obtain ⟨rfl, hv⟩ := hv
  have hsz := hv.1
  subst hsz
  have hN := hv.2.2
  have hE := mP_E hv
  have hx := B.exec
  have hb := B.bytes
  have hr := B.returns
  have hts := atoms_spec (ws := wsX3_sum) B.pre
  have hown : s.vm.findClass RX3 = some m.cls := findClass_of_methodNamed B.named
  have hlocks := B.notSynchronized
  have hl := lv_entry ([.ref (ad w), .int (nI q)]) (n := 2) (Nat.le_of_ble_eq_true rfl)
  rw [lg_entry_eq]
  generalize (lg_sl ([.ref (ad w), .int (nI q)]) ++ List.replicate (2 - (lg_sl ([.ref (ad w), .int (nI q)])).length) Slot.unset).toArray = ls at hl ⊢
  have hl : lv_has ls 2 [(0, .ref (ad w)), (1, .int (nI q))] := hl
  have hst := mHt_step q
  refine lv_iload_n hx hb dX3_sum_0 rfl (lv_at hl 1 rfl) ?_
  refine lv_bipush (v := nI 15) hx hb dX3_sum_1 (by decide) ?_
  refine mv_le (tgt := 28) hx hb (by omega) (by omega) dX3_sum_3 (by decide) (fun c1 => ?_) (fun c1 => ?_)
  · skip
    refine lv_bipush (v := nI 61) hx hb dX3_sum_28 (by decide) ?_
    refine lv_aload_n hx hb dX3_sum_30 rfl (lv_at hl 0 rfl) ?_
    refine lv_iconst (v := nI 2) hx hb dX3_sum_31 (by decide) ?_
    refine lv_iload_n hx hb dX3_sum_32 rfl (lv_at hl 1 rfl) ?_
    refine mv_imul (z := nI (2 * q)) hx hb (pk_mul _ _) dX3_sum_33 ?_
    refine va_calli (va_runS (As := [.ref (ad w), .int (nI (2 * q))]) (rest := [.int (nI 61)]) ⟨hx, hb, hml, hown, hts⟩ (c_X3_sum1 l G cy ad M _ w (2 * q) f hw0 (by omega) (by omega) (by have := hst (by omega) (by omega); omega)) (va_cwS 2 hts gX3_sum_X3_sum rfl rfl rfl (by decide +kernel) ⟨Nat.le_of_ble_eq_true rfl, Nat.le_of_ble_eq_true rfl⟩) (mP_S hN hE) rfl rfl hl.1 rfl (lv_room (Nat.le_of_ble_eq_true rfl)) dX3_sum_34 ⟨Nat.le_of_ble_eq_true rfl, Nat.le_of_ble_eq_true rfl⟩) hE.2.2.2 (fun q _ h => mE_A hE q h) (mE_A hE) (fun r uq tq H locs ht hvm hw hB hz1 hk1 hS => ?_)
    obtain ⟨rfl, rfl⟩ := hw
    have hE : mE G (mA ad (M) s.heap.size) s.heap ad (M) H locs := mE_call hE hB ht hS
    refine mv_imul (z := (nI 61) * (mS f (2 * q))) hx hb rfl dX3_sum_37 ?_
    refine lv_bipush (v := nI 89) hx hb dX3_sum_38 (by decide) ?_
    refine lv_aload_n hx hb dX3_sum_40 rfl (lv_at hl 0 rfl) ?_
    refine lv_iconst (v := nI 2) hx hb dX3_sum_41 (by decide) ?_
    refine lv_iload_n hx hb dX3_sum_42 rfl (lv_at hl 1 rfl) ?_
    refine mv_imul (z := nI (2 * q)) hx hb (pk_mul _ _) dX3_sum_43 ?_
    refine lv_iconst (v := nI 1) hx hb dX3_sum_44 (by decide) ?_
    refine mv_iadd (z := nI ((2 * q) + 1)) hx hb (nI_add _ _) dX3_sum_45 ?_
    refine va_calli (va_runS (As := [.ref (ad w), .int (nI ((2 * q) + 1))]) (rest := [.int (nI 89), .int ((nI 61) * (mS f (2 * q)))]) ⟨hx, hb, hml, hown, hts⟩ (c_X3_sum1 l G cy ad M _ w ((2 * q) + 1) f hw0 (by omega) (by omega) (by have := hst (by omega) (by omega); omega)) (va_cwS 2 hts gX3_sum_X3_sum rfl rfl rfl (by decide +kernel) ⟨Nat.le_of_ble_eq_true rfl, Nat.le_of_ble_eq_true rfl⟩) (mP_S hN hE) rfl rfl hl.1 rfl (lv_room (Nat.le_of_ble_eq_true rfl)) dX3_sum_46 ⟨Nat.le_of_ble_eq_true rfl, Nat.le_of_ble_eq_true rfl⟩) hE.2.2.2 (fun q _ h => mE_A hE q h) (mE_A hE) (fun r uq tq H locs ht hvm hw hB hz1 hk1 hS => ?_)
    obtain ⟨rfl, rfl⟩ := hw
    have hE : mE G (mA ad (M) s.heap.size) s.heap ad (M) H locs := mE_call hE hB ht hS
    refine mv_imul (z := (nI 89) * (mS f ((2 * q) + 1))) hx hb rfl dX3_sum_49 ?_
    refine mv_iadd (z := ((nI 61) * (mS f (2 * q))) + ((nI 89) * (mS f ((2 * q) + 1)))) hx hb rfl dX3_sum_50 ?_
    refine lv_iload_n hx hb dX3_sum_51 rfl (lv_at hl 1 rfl) ?_
    refine mv_iadd (z := (((nI 61) * (mS f (2 * q))) + ((nI 89) * (mS f ((2 * q) + 1)))) + (nI q)) hx hb rfl dX3_sum_52 ?_
    refine lv_sipush (v := nI 997) hx hb dX3_sum_53 (by decide) ?_
    refine mv_irem (z := mMod ((((nI 61) * (mS f (2 * q))) + ((nI 89) * (mS f ((2 * q) + 1)))) + (nI q))) hx hb (by decide) rfl dX3_sum_56 ?_
    exact mx_iret hx hb hr hE hlocks ⟨(mS_join f (by omega) (by omega)).symm, rfl⟩ dX3_sum_57
  · skip
    refine lv_bipush (v := nI 37) hx hb dX3_sum_6 (by decide) ?_
    refine lv_aload_n hx hb dX3_sum_8 rfl (lv_at hl 0 rfl) ?_
    refine lv_iload_n hx hb dX3_sum_9 rfl (lv_at hl 1 rfl) ?_
    refine lv_bipush (v := nI 16) hx hb dX3_sum_10 (by decide) ?_
    refine mv_isub (z := nI (q - 16)) hx hb (pk_sub (by omega)) dX3_sum_12 ?_
    refine mx_iald hx hb hN hE hw0 (j := q - 16) rfl (by omega) (by decide) dX3_sum_13 ?_
    refine mv_imul (z := (nI 37) * (f (q - 16))) hx hb rfl dX3_sum_14 ?_
    refine lv_bipush (v := nI 101) hx hb dX3_sum_15 (by decide) ?_
    refine lv_iload_n hx hb dX3_sum_17 rfl (lv_at hl 1 rfl) ?_
    refine lv_bipush (v := nI 15) hx hb dX3_sum_18 (by decide) ?_
    refine mv_isub (z := nI (q - 16) + nI 1) hx hb (by rw [nI_add, pk_sub (by omega), show q - 15 = q - 16 + 1 by omega]) dX3_sum_20 ?_
    refine mv_imul (z := (nI 101) * (nI (q - 16) + nI 1)) hx hb rfl dX3_sum_21 ?_
    refine mv_iadd (z := ((nI 37) * (f (q - 16))) + ((nI 101) * (nI (q - 16) + nI 1))) hx hb rfl dX3_sum_22 ?_
    refine lv_sipush (v := nI 997) hx hb dX3_sum_23 (by decide) ?_
    refine mv_irem (z := mMod (((nI 37) * (f (q - 16))) + ((nI 101) * (nI (q - 16) + nI 1)))) hx hb (by decide) rfl dX3_sum_26 ?_
    exact mx_iret hx hb hr hE hlocks ⟨(jS_leaf f (by omega)).symm, rfl⟩ dX3_sum_27

set_option maxHeartbeats 4000000 in
set_option maxRecDepth 100000 in
/-- the sum at a place, 3 steps above the drawers -/
theorem c_X3_sum3 (l : Launch) (G : va_G) (cy : Nat → ClassId) (ad : Nat → Nat) (M : mC) (sz : Nat) (w q : Nat) (f : Nat → Int32) (hw0 : M w = some (mI cy 16 f)) (hq1 : 1 ≤ q) (hq2 : q < 32) (hq : mHt q ≤ 3) : mMi l yX3_sum wsX3_sum ({ frames := 10, cells := 0, slots := 0, locals := 220 }) G cy ad (M) sz [.ref (ad w), .int (nI q)] 0 0 (fun (r : Int32) u => r = mS f q ∧ u = (ad, M)) := by
  refine Met.ofW (cc := cX3_sum) (maxL := 2) (ret := (some .int)) (by decide) rfl ?_
  intro p e s m args below meth c s₁ B hml hv
  obtain ⟨rfl, hv⟩ := hv
  have hsz := hv.1
  subst hsz
  have hN := hv.2.2
  have hE := mP_E hv
  have hx := B.exec
  have hb := B.bytes
  have hr := B.returns
  have hts := atoms_spec (ws := wsX3_sum) B.pre
  have hown : s.vm.findClass RX3 = some m.cls := findClass_of_methodNamed B.named
  have hlocks := B.notSynchronized
  have hl := lv_entry ([.ref (ad w), .int (nI q)]) (n := 2) (Nat.le_of_ble_eq_true rfl)
  rw [lg_entry_eq]
  generalize (lg_sl ([.ref (ad w), .int (nI q)]) ++ List.replicate (2 - (lg_sl ([.ref (ad w), .int (nI q)])).length) Slot.unset).toArray = ls at hl ⊢
  have hl : lv_has ls 2 [(0, .ref (ad w)), (1, .int (nI q))] := hl
  have hst := mHt_step q
  refine lv_iload_n hx hb dX3_sum_0 rfl (lv_at hl 1 rfl) ?_
  refine lv_bipush (v := nI 15) hx hb dX3_sum_1 (by decide) ?_
  refine mv_le (tgt := 28) hx hb (by omega) (by omega) dX3_sum_3 (by decide) (fun c1 => ?_) (fun c1 => ?_)
  · skip
    refine lv_bipush (v := nI 61) hx hb dX3_sum_28 (by decide) ?_
    refine lv_aload_n hx hb dX3_sum_30 rfl (lv_at hl 0 rfl) ?_
    refine lv_iconst (v := nI 2) hx hb dX3_sum_31 (by decide) ?_
    refine lv_iload_n hx hb dX3_sum_32 rfl (lv_at hl 1 rfl) ?_
    refine mv_imul (z := nI (2 * q)) hx hb (pk_mul _ _) dX3_sum_33 ?_
    refine va_calli (va_runS (As := [.ref (ad w), .int (nI (2 * q))]) (rest := [.int (nI 61)]) ⟨hx, hb, hml, hown, hts⟩ (c_X3_sum2 l G cy ad M _ w (2 * q) f hw0 (by omega) (by omega) (by have := hst (by omega) (by omega); omega)) (va_cwS 2 hts gX3_sum_X3_sum rfl rfl rfl (by decide +kernel) ⟨Nat.le_of_ble_eq_true rfl, Nat.le_of_ble_eq_true rfl⟩) (mP_S hN hE) rfl rfl hl.1 rfl (lv_room (Nat.le_of_ble_eq_true rfl)) dX3_sum_34 ⟨Nat.le_of_ble_eq_true rfl, Nat.le_of_ble_eq_true rfl⟩) hE.2.2.2 (fun q _ h => mE_A hE q h) (mE_A hE) (fun r uq tq H locs ht hvm hw hB hz1 hk1 hS => ?_)
    obtain ⟨rfl, rfl⟩ := hw
    have hE : mE G (mA ad (M) s.heap.size) s.heap ad (M) H locs := mE_call hE hB ht hS
    refine mv_imul (z := (nI 61) * (mS f (2 * q))) hx hb rfl dX3_sum_37 ?_
    refine lv_bipush (v := nI 89) hx hb dX3_sum_38 (by decide) ?_
    refine lv_aload_n hx hb dX3_sum_40 rfl (lv_at hl 0 rfl) ?_
    refine lv_iconst (v := nI 2) hx hb dX3_sum_41 (by decide) ?_
    refine lv_iload_n hx hb dX3_sum_42 rfl (lv_at hl 1 rfl) ?_
    refine mv_imul (z := nI (2 * q)) hx hb (pk_mul _ _) dX3_sum_43 ?_
    refine lv_iconst (v := nI 1) hx hb dX3_sum_44 (by decide) ?_
    refine mv_iadd (z := nI ((2 * q) + 1)) hx hb (nI_add _ _) dX3_sum_45 ?_
    refine va_calli (va_runS (As := [.ref (ad w), .int (nI ((2 * q) + 1))]) (rest := [.int (nI 89), .int ((nI 61) * (mS f (2 * q)))]) ⟨hx, hb, hml, hown, hts⟩ (c_X3_sum2 l G cy ad M _ w ((2 * q) + 1) f hw0 (by omega) (by omega) (by have := hst (by omega) (by omega); omega)) (va_cwS 2 hts gX3_sum_X3_sum rfl rfl rfl (by decide +kernel) ⟨Nat.le_of_ble_eq_true rfl, Nat.le_of_ble_eq_true rfl⟩) (mP_S hN hE) rfl rfl hl.1 rfl (lv_room (Nat.le_of_ble_eq_true rfl)) dX3_sum_46 ⟨Nat.le_of_ble_eq_true rfl, Nat.le_of_ble_eq_true rfl⟩) hE.2.2.2 (fun q _ h => mE_A hE q h) (mE_A hE) (fun r uq tq H locs ht hvm hw hB hz1 hk1 hS => ?_)
    obtain ⟨rfl, rfl⟩ := hw
    have hE : mE G (mA ad (M) s.heap.size) s.heap ad (M) H locs := mE_call hE hB ht hS
    refine mv_imul (z := (nI 89) * (mS f ((2 * q) + 1))) hx hb rfl dX3_sum_49 ?_
    refine mv_iadd (z := ((nI 61) * (mS f (2 * q))) + ((nI 89) * (mS f ((2 * q) + 1)))) hx hb rfl dX3_sum_50 ?_
    refine lv_iload_n hx hb dX3_sum_51 rfl (lv_at hl 1 rfl) ?_
    refine mv_iadd (z := (((nI 61) * (mS f (2 * q))) + ((nI 89) * (mS f ((2 * q) + 1)))) + (nI q)) hx hb rfl dX3_sum_52 ?_
    refine lv_sipush (v := nI 997) hx hb dX3_sum_53 (by decide) ?_
    refine mv_irem (z := mMod ((((nI 61) * (mS f (2 * q))) + ((nI 89) * (mS f ((2 * q) + 1)))) + (nI q))) hx hb (by decide) rfl dX3_sum_56 ?_
    exact mx_iret hx hb hr hE hlocks ⟨(mS_join f (by omega) (by omega)).symm, rfl⟩ dX3_sum_57
  · skip
    refine lv_bipush (v := nI 37) hx hb dX3_sum_6 (by decide) ?_
    refine lv_aload_n hx hb dX3_sum_8 rfl (lv_at hl 0 rfl) ?_
    refine lv_iload_n hx hb dX3_sum_9 rfl (lv_at hl 1 rfl) ?_
    refine lv_bipush (v := nI 16) hx hb dX3_sum_10 (by decide) ?_
    refine mv_isub (z := nI (q - 16)) hx hb (pk_sub (by omega)) dX3_sum_12 ?_
    refine mx_iald hx hb hN hE hw0 (j := q - 16) rfl (by omega) (by decide) dX3_sum_13 ?_
    refine mv_imul (z := (nI 37) * (f (q - 16))) hx hb rfl dX3_sum_14 ?_
    refine lv_bipush (v := nI 101) hx hb dX3_sum_15 (by decide) ?_
    refine lv_iload_n hx hb dX3_sum_17 rfl (lv_at hl 1 rfl) ?_
    refine lv_bipush (v := nI 15) hx hb dX3_sum_18 (by decide) ?_
    refine mv_isub (z := nI (q - 16) + nI 1) hx hb (by rw [nI_add, pk_sub (by omega), show q - 15 = q - 16 + 1 by omega]) dX3_sum_20 ?_
    refine mv_imul (z := (nI 101) * (nI (q - 16) + nI 1)) hx hb rfl dX3_sum_21 ?_
    refine mv_iadd (z := ((nI 37) * (f (q - 16))) + ((nI 101) * (nI (q - 16) + nI 1))) hx hb rfl dX3_sum_22 ?_
    refine lv_sipush (v := nI 997) hx hb dX3_sum_23 (by decide) ?_
    refine mv_irem (z := mMod (((nI 37) * (f (q - 16))) + ((nI 101) * (nI (q - 16) + nI 1)))) hx hb (by decide) rfl dX3_sum_26 ?_
    exact mx_iret hx hb hr hE hlocks ⟨(jS_leaf f (by omega)).symm, rfl⟩ dX3_sum_27

set_option maxHeartbeats 4000000 in
set_option maxRecDepth 100000 in
/-- the sum at a place, 4 steps above the drawers -/
theorem c_X3_sum4 (l : Launch) (G : va_G) (cy : Nat → ClassId) (ad : Nat → Nat) (M : mC) (sz : Nat) (w q : Nat) (f : Nat → Int32) (hw0 : M w = some (mI cy 16 f)) (hq1 : 1 ≤ q) (hq2 : q < 32) (hq : mHt q ≤ 4) : mMi l yX3_sum wsX3_sum ({ frames := 11, cells := 0, slots := 0, locals := 260 }) G cy ad (M) sz [.ref (ad w), .int (nI q)] 0 0 (fun (r : Int32) u => r = mS f q ∧ u = (ad, M)) := by
  refine Met.ofW (cc := cX3_sum) (maxL := 2) (ret := (some .int)) (by decide) rfl ?_
  intro p e s m args below meth c s₁ B hml hv
  obtain ⟨rfl, hv⟩ := hv
  have hsz := hv.1
  subst hsz
  have hN := hv.2.2
  have hE := mP_E hv
  have hx := B.exec
  have hb := B.bytes
  have hr := B.returns
  have hts := atoms_spec (ws := wsX3_sum) B.pre
  have hown : s.vm.findClass RX3 = some m.cls := findClass_of_methodNamed B.named
  have hlocks := B.notSynchronized
  have hl := lv_entry ([.ref (ad w), .int (nI q)]) (n := 2) (Nat.le_of_ble_eq_true rfl)
  rw [lg_entry_eq]
  generalize (lg_sl ([.ref (ad w), .int (nI q)]) ++ List.replicate (2 - (lg_sl ([.ref (ad w), .int (nI q)])).length) Slot.unset).toArray = ls at hl ⊢
  have hl : lv_has ls 2 [(0, .ref (ad w)), (1, .int (nI q))] := hl
  have hst := mHt_step q
  refine lv_iload_n hx hb dX3_sum_0 rfl (lv_at hl 1 rfl) ?_
  refine lv_bipush (v := nI 15) hx hb dX3_sum_1 (by decide) ?_
  refine mv_le (tgt := 28) hx hb (by omega) (by omega) dX3_sum_3 (by decide) (fun c1 => ?_) (fun c1 => ?_)
  · skip
    refine lv_bipush (v := nI 61) hx hb dX3_sum_28 (by decide) ?_
    refine lv_aload_n hx hb dX3_sum_30 rfl (lv_at hl 0 rfl) ?_
    refine lv_iconst (v := nI 2) hx hb dX3_sum_31 (by decide) ?_
    refine lv_iload_n hx hb dX3_sum_32 rfl (lv_at hl 1 rfl) ?_
    refine mv_imul (z := nI (2 * q)) hx hb (pk_mul _ _) dX3_sum_33 ?_
    refine va_calli (va_runS (As := [.ref (ad w), .int (nI (2 * q))]) (rest := [.int (nI 61)]) ⟨hx, hb, hml, hown, hts⟩ (c_X3_sum3 l G cy ad M _ w (2 * q) f hw0 (by omega) (by omega) (by have := hst (by omega) (by omega); omega)) (va_cwS 2 hts gX3_sum_X3_sum rfl rfl rfl (by decide +kernel) ⟨Nat.le_of_ble_eq_true rfl, Nat.le_of_ble_eq_true rfl⟩) (mP_S hN hE) rfl rfl hl.1 rfl (lv_room (Nat.le_of_ble_eq_true rfl)) dX3_sum_34 ⟨Nat.le_of_ble_eq_true rfl, Nat.le_of_ble_eq_true rfl⟩) hE.2.2.2 (fun q _ h => mE_A hE q h) (mE_A hE) (fun r uq tq H locs ht hvm hw hB hz1 hk1 hS => ?_)
    obtain ⟨rfl, rfl⟩ := hw
    have hE : mE G (mA ad (M) s.heap.size) s.heap ad (M) H locs := mE_call hE hB ht hS
    refine mv_imul (z := (nI 61) * (mS f (2 * q))) hx hb rfl dX3_sum_37 ?_
    refine lv_bipush (v := nI 89) hx hb dX3_sum_38 (by decide) ?_
    refine lv_aload_n hx hb dX3_sum_40 rfl (lv_at hl 0 rfl) ?_
    refine lv_iconst (v := nI 2) hx hb dX3_sum_41 (by decide) ?_
    refine lv_iload_n hx hb dX3_sum_42 rfl (lv_at hl 1 rfl) ?_
    refine mv_imul (z := nI (2 * q)) hx hb (pk_mul _ _) dX3_sum_43 ?_
    refine lv_iconst (v := nI 1) hx hb dX3_sum_44 (by decide) ?_
    refine mv_iadd (z := nI ((2 * q) + 1)) hx hb (nI_add _ _) dX3_sum_45 ?_
    refine va_calli (va_runS (As := [.ref (ad w), .int (nI ((2 * q) + 1))]) (rest := [.int (nI 89), .int ((nI 61) * (mS f (2 * q)))]) ⟨hx, hb, hml, hown, hts⟩ (c_X3_sum3 l G cy ad M _ w ((2 * q) + 1) f hw0 (by omega) (by omega) (by have := hst (by omega) (by omega); omega)) (va_cwS 2 hts gX3_sum_X3_sum rfl rfl rfl (by decide +kernel) ⟨Nat.le_of_ble_eq_true rfl, Nat.le_of_ble_eq_true rfl⟩) (mP_S hN hE) rfl rfl hl.1 rfl (lv_room (Nat.le_of_ble_eq_true rfl)) dX3_sum_46 ⟨Nat.le_of_ble_eq_true rfl, Nat.le_of_ble_eq_true rfl⟩) hE.2.2.2 (fun q _ h => mE_A hE q h) (mE_A hE) (fun r uq tq H locs ht hvm hw hB hz1 hk1 hS => ?_)
    obtain ⟨rfl, rfl⟩ := hw
    have hE : mE G (mA ad (M) s.heap.size) s.heap ad (M) H locs := mE_call hE hB ht hS
    refine mv_imul (z := (nI 89) * (mS f ((2 * q) + 1))) hx hb rfl dX3_sum_49 ?_
    refine mv_iadd (z := ((nI 61) * (mS f (2 * q))) + ((nI 89) * (mS f ((2 * q) + 1)))) hx hb rfl dX3_sum_50 ?_
    refine lv_iload_n hx hb dX3_sum_51 rfl (lv_at hl 1 rfl) ?_
    refine mv_iadd (z := (((nI 61) * (mS f (2 * q))) + ((nI 89) * (mS f ((2 * q) + 1)))) + (nI q)) hx hb rfl dX3_sum_52 ?_
    refine lv_sipush (v := nI 997) hx hb dX3_sum_53 (by decide) ?_
    refine mv_irem (z := mMod ((((nI 61) * (mS f (2 * q))) + ((nI 89) * (mS f ((2 * q) + 1)))) + (nI q))) hx hb (by decide) rfl dX3_sum_56 ?_
    exact mx_iret hx hb hr hE hlocks ⟨(mS_join f (by omega) (by omega)).symm, rfl⟩ dX3_sum_57
  · skip
    refine lv_bipush (v := nI 37) hx hb dX3_sum_6 (by decide) ?_
    refine lv_aload_n hx hb dX3_sum_8 rfl (lv_at hl 0 rfl) ?_
    refine lv_iload_n hx hb dX3_sum_9 rfl (lv_at hl 1 rfl) ?_
    refine lv_bipush (v := nI 16) hx hb dX3_sum_10 (by decide) ?_
    refine mv_isub (z := nI (q - 16)) hx hb (pk_sub (by omega)) dX3_sum_12 ?_
    refine mx_iald hx hb hN hE hw0 (j := q - 16) rfl (by omega) (by decide) dX3_sum_13 ?_
    refine mv_imul (z := (nI 37) * (f (q - 16))) hx hb rfl dX3_sum_14 ?_
    refine lv_bipush (v := nI 101) hx hb dX3_sum_15 (by decide) ?_
    refine lv_iload_n hx hb dX3_sum_17 rfl (lv_at hl 1 rfl) ?_
    refine lv_bipush (v := nI 15) hx hb dX3_sum_18 (by decide) ?_
    refine mv_isub (z := nI (q - 16) + nI 1) hx hb (by rw [nI_add, pk_sub (by omega), show q - 15 = q - 16 + 1 by omega]) dX3_sum_20 ?_
    refine mv_imul (z := (nI 101) * (nI (q - 16) + nI 1)) hx hb rfl dX3_sum_21 ?_
    refine mv_iadd (z := ((nI 37) * (f (q - 16))) + ((nI 101) * (nI (q - 16) + nI 1))) hx hb rfl dX3_sum_22 ?_
    refine lv_sipush (v := nI 997) hx hb dX3_sum_23 (by decide) ?_
    refine mv_irem (z := mMod (((nI 37) * (f (q - 16))) + ((nI 101) * (nI (q - 16) + nI 1)))) hx hb (by decide) rfl dX3_sum_26 ?_
    exact mx_iret hx hb hr hE hlocks ⟨(jS_leaf f (by omega)).symm, rfl⟩ dX3_sum_27

theorem c_X3_sum (l : Launch) (G : va_G) (cy : Nat → ClassId) (ad : Nat → Nat) (M : mC) (sz : Nat) (w q : Nat) (f : Nat → Int32) (hw0 : M w = some (mI cy 16 f)) (hq1 : 1 ≤ q) (hq2 : q < 32) : mMi l yX3_sum wsX3_sum ({ frames := 11, cells := 0, slots := 0, locals := 260 }) G cy ad (M) sz [.ref (ad w), .int (nI q)] 0 0 (fun (r : Int32) u => r = mS f q ∧ u = (ad, M)) := c_X3_sum4 l G cy ad M sz w q f hw0 hq1 hq2 (jHt_le q hq2)

set_option maxHeartbeats 4000000 in
set_option maxRecDepth 100000 in
/-- the root of a cupboard of the law's own room -/
theorem c_X3_root (l : Launch) (G : va_G) (cy : Nat → ClassId) (ad : Nat → Nat) (N K : Nat) (u : Nat → Nat → Int32) (x : mC) (hN6 : N ≤ 6) (hK : K ≤ 20) (sz : Nat) (i : Nat) (h_i : i < N) : mMi l yX3_root wsX3_root ({ frames := 12, cells := 0, slots := 0, locals := 300 }) G cy ad (Si cy ad N K u x) sz [.ref (ad 4), .int (nI i)] 0 0 (fun (r : Int32) t => r = mS (u (20 + i)) 1 ∧ t = (ad, Si cy ad N K u x)) := by
  refine Met.ofW (cc := cX3_root) (maxL := 2) (ret := (some .int)) (by decide) rfl ?_
  intro p e s m args below meth c s₁ B hml hv
  obtain ⟨rfl, hv⟩ := hv
  have hsz := hv.1
  subst hsz
  have hN := hv.2.2
  have hE := mP_E hv
  have hx := B.exec
  have hb := B.bytes
  have hr := B.returns
  have hts := atoms_spec (ws := wsX3_root) B.pre
  have hown : s.vm.findClass RX3 = some m.cls := findClass_of_methodNamed B.named
  have hlocks := B.notSynchronized
  have hiX3 : ∀ w ∈ wsX30, w ∈ wsX3_root := by decide +kernel
  have hl := lv_entry ([.ref (ad 4), .int (nI i)]) (n := 2) (Nat.le_of_ble_eq_true rfl)
  rw [lg_entry_eq]
  generalize (lg_sl ([.ref (ad 4), .int (nI i)]) ++ List.replicate (2 - (lg_sl ([.ref (ad 4), .int (nI i)])).length) Slot.unset).toArray = ls at hl ⊢
  have hl : lv_has ls 2 [(0, .ref (ad 4)), (1, .int (nI i))] := hl
  refine lv_aload_n hx hb dX3_root_0 rfl (lv_at hl 0 rfl) ?_
  refine va_get (D := G) (ci := 3) (v := .ref (ad 5)) (C := RX3) (T := TX3) (N := 3) hx hb hts hiX3 hown hN.1 (mE_P1 hE Q_4) 0 rfl rfl 0 (by decide) (hts (.fieldLink RX3 9 "SealedCupboardsLaw$Sim" "things" "[[I") (by decide +kernel)) (fun _ h9 => h9) rfl dX3_root_1 ?_
  refine lv_iload_n hx hb dX3_root_4 rfl (lv_at hl 1 rfl) ?_
  refine mx_ralda hx hb hN hE Q_5 (j := i) rfl (by omega) (by omega) (Q_5at h_i) dX3_root_5 ?_
  refine lv_iconst (v := nI 1) hx hb dX3_root_6 (by decide) ?_
  refine va_calli (va_runS (As := [.ref (ad (20 + i)), .int (nI 1)]) (rest := []) ⟨hx, hb, hml, hown, hts⟩ (c_X3_sum l G cy ad (Si cy ad N K u x) _ (20 + i) 1 (u (20 + i)) (Q_te h_i rfl) (by omega) (by omega)) (va_cwS 2 hts gX3_root_X3_sum rfl rfl rfl (by decide +kernel) ⟨Nat.le_of_ble_eq_true rfl, Nat.le_of_ble_eq_true rfl⟩) (mP_S hN hE) rfl rfl hl.1 rfl (lv_room (Nat.le_of_ble_eq_true rfl)) dX3_root_7 ⟨Nat.le_of_ble_eq_true rfl, Nat.le_of_ble_eq_true rfl⟩) hE.2.2.2 (fun q _ h => mE_A hE q h) (mE_A hE) (fun r uq tq H locs ht hvm hw hB hz1 hk1 hS => ?_)
  obtain ⟨rfl, rfl⟩ := hw
  have hE : mE G (mA ad (Si cy ad N K u x) s.heap.size) s.heap ad (Si cy ad N K u x) H locs := mE_call hE hB ht hS
  exact mx_iret hx hb hr hE hlocks ⟨rfl, rfl⟩ dX3_root_10

set_option maxHeartbeats 4000000 in
set_option maxRecDepth 100000 in
/-- a thing into a drawer of the law's own room -/
theorem c_X3_put (l : Launch) (G : va_G) (cy : Nat → ClassId) (ad : Nat → Nat) (N K : Nat) (u : Nat → Nat → Int32) (x : mC) (hN6 : N ≤ 6) (hK : K ≤ 20) (sz : Nat) (i d : Nat) (t : Int32) (h_i : i < N) (hd : d < 16) : mMi l yX3_put wsX3_put ({ frames := 7, cells := 0, slots := 0, locals := 100 }) G cy ad (Si cy ad N K u x) sz [.ref (ad 4), .int (nI i), .int (nI d), .int t] 0 0 (fun (r : Int32) t9 => r = mb (¬ u (20 + i) d = t) ∧ t9 = (ad, Si cy ad N K (jPut u i d t) x)) := by
  refine Met.ofW (cc := cX3_put) (maxL := 4) (ret := (some .boolean)) (by decide) rfl ?_
  intro p e s m args below meth c s₁ B hml hv
  obtain ⟨rfl, hv⟩ := hv
  have hsz := hv.1
  subst hsz
  have hN := hv.2.2
  have hE := mP_E hv
  have hx := B.exec
  have hb := B.bytes
  have hr := B.returns
  have hts := atoms_spec (ws := wsX3_put) B.pre
  have hown : s.vm.findClass RX3 = some m.cls := findClass_of_methodNamed B.named
  have hlocks := B.notSynchronized
  have hiX3 : ∀ w ∈ wsX30, w ∈ wsX3_put := by decide +kernel
  have hl := lv_entry ([.ref (ad 4), .int (nI i), .int (nI d), .int t]) (n := 4) (Nat.le_of_ble_eq_true rfl)
  rw [lg_entry_eq]
  generalize (lg_sl ([.ref (ad 4), .int (nI i), .int (nI d), .int t]) ++ List.replicate (4 - (lg_sl ([.ref (ad 4), .int (nI i), .int (nI d), .int t])).length) Slot.unset).toArray = ls at hl ⊢
  have hl : lv_has ls 4 [(0, .ref (ad 4)), (1, .int (nI i)), (2, .int (nI d)), (3, .int t)] := hl
  refine lv_aload_n hx hb dX3_put_0 rfl (lv_at hl 0 rfl) ?_
  refine va_get (D := G) (ci := 3) (v := .ref (ad 5)) (C := RX3) (T := TX3) (N := 3) hx hb hts hiX3 hown hN.1 (mE_P1 hE Q_4) 0 rfl rfl 0 (by decide) (hts (.fieldLink RX3 9 "SealedCupboardsLaw$Sim" "things" "[[I") (by decide +kernel)) (fun _ h9 => h9) rfl dX3_put_1 ?_
  refine lv_iload_n hx hb dX3_put_4 rfl (lv_at hl 1 rfl) ?_
  refine mx_ralda hx hb hN hE Q_5 (j := i) rfl (by omega) (by omega) (Q_5at h_i) dX3_put_5 ?_
  refine lv_iload_n hx hb dX3_put_6 rfl (lv_at hl 2 rfl) ?_
  refine mx_iald hx hb hN hE (Q_te h_i rfl) (j := d) rfl (by omega) (by decide) dX3_put_7 ?_
  refine lv_iload_n hx hb dX3_put_8 rfl (lv_at hl 3 rfl) ?_
  refine lv_icmp_ne (tgt := 14) hx hb dX3_put_9 (by decide) (fun c1 => ?_) (fun c1 => ?_)
  · skip
    refine lv_aload_n hx hb dX3_put_14 rfl (lv_at hl 0 rfl) ?_
    refine va_get (D := G) (ci := 3) (v := .ref (ad 5)) (C := RX3) (T := TX3) (N := 3) hx hb hts hiX3 hown hN.1 (mE_P1 hE Q_4) 0 rfl rfl 0 (by decide) (hts (.fieldLink RX3 9 "SealedCupboardsLaw$Sim" "things" "[[I") (by decide +kernel)) (fun _ h9 => h9) rfl dX3_put_15 ?_
    refine lv_iload_n hx hb dX3_put_18 rfl (lv_at hl 1 rfl) ?_
    refine mx_ralda hx hb hN hE Q_5 (j := i) rfl (by omega) (by omega) (Q_5at h_i) dX3_put_19 ?_
    refine lv_iload_n hx hb dX3_put_20 rfl (lv_at hl 2 rfl) ?_
    refine lv_iload_n hx hb dX3_put_21 rfl (lv_at hl 3 rfl) ?_
    refine mx_iast hx hb hN hE (Q_te h_i rfl) (j := d) rfl (by omega) (by decide) dX3_put_22 (fun H locs hE => ?_)
    obtain ⟨kv2, hkv2⟩ : ∃ y99, y99 = va_up u (20 + i) (upd (u (20 + i)) d t) := ⟨_, rfl⟩
    have hE : mE G (mA ad (Si cy ad N K u x) s.heap.size) s.heap ad (Si cy ad N K kv2 x) H locs := by rw [hkv2]; exact (Q_up (si_t h_i)) ▸ hE
    have ke3 : kv2 7 = u 7 := by rw [hkv2, va_up_n _ _ (by omega)]
    have ke4 : kv2 (20 + i) = (upd (u (20 + i)) d t) := by rw [hkv2, va_up_s]
    refine lv_aload_n hx hb dX3_put_23 rfl (lv_at hl 0 rfl) ?_
    refine va_get (D := G) (ci := 3) (v := .ref (ad 7)) (C := RX3) (T := TX3) (N := 3) hx hb hts hiX3 hown hN.1 (mE_P1 hE Q_4) 0 rfl rfl 2 (by decide) (hts (.fieldLink RX3 18 "SealedCupboardsLaw$Sim" "changes" "[I") (by decide +kernel)) (fun _ h9 => h9) rfl dX3_put_24 ?_
    refine lv_iload_n hx hb dX3_put_27 rfl (lv_at hl 1 rfl) ?_
    refine lv_dup2_11 hx hb dX3_put_28 rfl rfl ?_
    refine mx_iald hx hb hN hE (Q_7e ke3) (j := i) rfl (by omega) (by decide) dX3_put_29 ?_
    refine lv_iconst (v := nI 1) hx hb dX3_put_30 (by decide) ?_
    refine mv_iadd (z := (u 7 i) + (nI 1)) hx hb rfl dX3_put_31 ?_
    refine mx_iast hx hb hN hE (Q_7e ke3) (j := i) rfl (by omega) (by decide) dX3_put_32 (fun H locs hE => ?_)
    obtain ⟨kv5, hkv5⟩ : ∃ y99, y99 = va_up kv2 7 (upd (u 7) i ((u 7 i) + (nI 1))) := ⟨_, rfl⟩
    have hE : mE G (mA ad (Si cy ad N K u x) s.heap.size) s.heap ad (Si cy ad N K kv5 x) H locs := by rw [hkv5]; exact (Q_up si_7) ▸ hE
    have ke6 : kv5 (20 + i) = (upd (u (20 + i)) d t) := by rw [hkv5, va_up_n _ _ (by omega)]; exact ke4
    have ke7 : kv5 7 = (upd (u 7) i ((u 7 i) + (nI 1))) := by rw [hkv5, va_up_s]
    refine lv_iconst (v := nI 1) hx hb dX3_put_33 (by decide) ?_
    exact mx_zret hx hb hr rfl hE hlocks ⟨(mb_t c1).symm, by rw [jPut, if_neg c1, hkv5, hkv2]; rfl⟩ dX3_put_34
  · skip
    refine lv_iconst (v := nI 0) hx hb dX3_put_12 (by decide) ?_
    exact mx_zret hx hb hr rfl hE hlocks ⟨(mb_f (fun h9 => h9 c1)).symm, by rw [jPut, if_pos c1]⟩ dX3_put_13

set_option maxHeartbeats 4000000 in
set_option maxRecDepth 100000 in
/-- compare, 0 steps above the drawers -/
theorem c_X3_compare0 (l : Launch) (G : va_G) (cy : Nat → ClassId) (ad : Nat → Nat) (N K : Nat) (u : Nat → Nat → Int32) (x : mC) (hN6 : N ≤ 6) (hK : K ≤ 20) (sz : Nat) (a b q : Nat) (h_a : a < N) (h_b : b < N) (hq1 : 1 ≤ q) (hq2 : q < 32) (hq : mHt q = 0) : mMi l yX3_compare wsX3_compare ({ frames := 12, cells := 0, slots := 0, locals := 300 }) G cy ad (Si cy ad N K u x) sz [.ref (ad 4), .int (nI a), .int (nI b), .int (nI q)] 0 0 (fun (r : Int32) t => r = nI (jCmp (mS (u (20 + a))) (mS (u (20 + b))) 0 q) ∧ t = (ad, Si cy ad N K u x)) := by
  refine Met.ofW (cc := cX3_compare) (maxL := 4) (ret := (some .int)) (by decide) rfl ?_
  intro p e s m args below meth c s₁ B hml hv
  obtain ⟨rfl, hv⟩ := hv
  have hsz := hv.1
  subst hsz
  have hN := hv.2.2
  have hE := mP_E hv
  have hx := B.exec
  have hb := B.bytes
  have hr := B.returns
  have hts := atoms_spec (ws := wsX3_compare) B.pre
  have hown : s.vm.findClass RX3 = some m.cls := findClass_of_methodNamed B.named
  have hlocks := B.notSynchronized
  have hiX3 : ∀ w ∈ wsX30, w ∈ wsX3_compare := by decide +kernel
  have hl := lv_entry ([.ref (ad 4), .int (nI a), .int (nI b), .int (nI q)]) (n := 4) (Nat.le_of_ble_eq_true rfl)
  rw [lg_entry_eq]
  generalize (lg_sl ([.ref (ad 4), .int (nI a), .int (nI b), .int (nI q)]) ++ List.replicate (4 - (lg_sl ([.ref (ad 4), .int (nI a), .int (nI b), .int (nI q)])).length) Slot.unset).toArray = ls at hl ⊢
  have hl : lv_has ls 4 [(0, .ref (ad 4)), (1, .int (nI a)), (2, .int (nI b)), (3, .int (nI q))] := hl
  have hq16 := jHt_0 hq
  refine lv_aload_n hx hb dX3_compare_0 rfl (lv_at hl 0 rfl) ?_
  refine va_get (D := G) (ci := 3) (v := .ref (ad 5)) (C := RX3) (T := TX3) (N := 3) hx hb hts hiX3 hown hN.1 (mE_P1 hE Q_4) 0 rfl rfl 0 (by decide) (hts (.fieldLink RX3 9 "SealedCupboardsLaw$Sim" "things" "[[I") (by decide +kernel)) (fun _ h9 => h9) rfl dX3_compare_1 ?_
  refine lv_iload_n hx hb dX3_compare_4 rfl (lv_at hl 1 rfl) ?_
  refine mx_ralda hx hb hN hE Q_5 (j := a) rfl (by omega) (by omega) (Q_5at h_a) dX3_compare_5 ?_
  refine lv_iload_n hx hb dX3_compare_6 rfl (lv_at hl 3 rfl) ?_
  refine va_calli (va_runS (As := [.ref (ad (20 + a)), .int (nI q)]) (rest := []) ⟨hx, hb, hml, hown, hts⟩ (c_X3_sum l G cy ad (Si cy ad N K u x) _ (20 + a) q (u (20 + a)) (Q_te h_a rfl) (by omega) (by omega)) (va_cwS 2 hts gX3_compare_X3_sum rfl rfl rfl (by decide +kernel) ⟨Nat.le_of_ble_eq_true rfl, Nat.le_of_ble_eq_true rfl⟩) (mP_S hN hE) rfl rfl hl.1 rfl (lv_room (Nat.le_of_ble_eq_true rfl)) dX3_compare_7 ⟨Nat.le_of_ble_eq_true rfl, Nat.le_of_ble_eq_true rfl⟩) hE.2.2.2 (fun q _ h => mE_A hE q h) (mE_A hE) (fun r uq tq H locs ht hvm hw hB hz1 hk1 hS => ?_)
  obtain ⟨rfl, rfl⟩ := hw
  have hE : mE G (mA ad (Si cy ad N K u x) s.heap.size) s.heap ad (Si cy ad N K u x) H locs := mE_call hE hB ht hS
  refine lv_aload_n hx hb dX3_compare_10 rfl (lv_at hl 0 rfl) ?_
  refine va_get (D := G) (ci := 3) (v := .ref (ad 5)) (C := RX3) (T := TX3) (N := 3) hx hb hts hiX3 hown hN.1 (mE_P1 hE Q_4) 0 rfl rfl 0 (by decide) (hts (.fieldLink RX3 9 "SealedCupboardsLaw$Sim" "things" "[[I") (by decide +kernel)) (fun _ h9 => h9) rfl dX3_compare_11 ?_
  refine lv_iload_n hx hb dX3_compare_14 rfl (lv_at hl 2 rfl) ?_
  refine mx_ralda hx hb hN hE Q_5 (j := b) rfl (by omega) (by omega) (Q_5at h_b) dX3_compare_15 ?_
  refine lv_iload_n hx hb dX3_compare_16 rfl (lv_at hl 3 rfl) ?_
  refine va_calli (va_runS (As := [.ref (ad (20 + b)), .int (nI q)]) (rest := [.int (mS (u (20 + a)) q)]) ⟨hx, hb, hml, hown, hts⟩ (c_X3_sum l G cy ad (Si cy ad N K u x) _ (20 + b) q (u (20 + b)) (Q_te h_b rfl) (by omega) (by omega)) (va_cwS 2 hts gX3_compare_X3_sum rfl rfl rfl (by decide +kernel) ⟨Nat.le_of_ble_eq_true rfl, Nat.le_of_ble_eq_true rfl⟩) (mP_S hN hE) rfl rfl hl.1 rfl (lv_room (Nat.le_of_ble_eq_true rfl)) dX3_compare_17 ⟨Nat.le_of_ble_eq_true rfl, Nat.le_of_ble_eq_true rfl⟩) hE.2.2.2 (fun q _ h => mE_A hE q h) (mE_A hE) (fun r uq tq H locs ht hvm hw hB hz1 hk1 hS => ?_)
  obtain ⟨rfl, rfl⟩ := hw
  have hE : mE G (mA ad (Si cy ad N K u x) s.heap.size) s.heap ad (Si cy ad N K u x) H locs := mE_call hE hB ht hS
  refine lv_icmp_ne (tgt := 26) hx hb dX3_compare_20 (by decide) (fun c1 => ?_) (fun c1 => ?_)
  · skip
    refine lv_iload_n hx hb dX3_compare_26 rfl (lv_at hl 3 rfl) ?_
    refine lv_bipush (v := nI 15) hx hb dX3_compare_27 (by decide) ?_
    refine mv_le (tgt := 42) hx hb (by omega) (by omega) dX3_compare_29 (by decide) (fun c2 => ?_) (fun c2 => ?_)
    · skip
      exfalso; omega
    · skip
      refine lv_ldc (v := nI 65536) hx hb hown (hts (.constant RX3 29 (nI 65536)) (by decide +kernel)) dX3_compare_32 ?_
      refine lv_iconst (v := nI 1) hx hb dX3_compare_34 (by decide) ?_
      refine lv_iload_n hx hb dX3_compare_35 rfl (lv_at hl 3 rfl) ?_
      refine lv_bipush (v := nI 16) hx hb dX3_compare_36 (by decide) ?_
      refine mv_isub (z := nI (q - 16)) hx hb (pk_sub (by omega)) dX3_compare_38 ?_
      refine mv_ishl (z := nI (1 * 2 ^ (q - 16))) hx hb (pk_shlN _ _ (mu_l _ (by omega)) (by have : 2 ^ (q - 16) < 2 ^ 16 := Nat.pow_lt_pow_right (by decide) (by omega); omega)) dX3_compare_39 ?_
      refine mv_iadd (z := nI (65536 + (1 * 2 ^ (q - 16)))) hx hb (nI_add _ _) dX3_compare_40 ?_
      exact mx_iret hx hb hr hE hlocks ⟨by rw [show jCmp (mS (u (20 + a))) (mS (u (20 + b))) 0 q = 65536 + (1 * 2 ^ (q - 16)) from if_neg c1], rfl⟩ dX3_compare_41
  · skip
    refine lv_ldc (v := nI 65536) hx hb hown (hts (.constant RX3 29 (nI 65536)) (by decide +kernel)) dX3_compare_23 ?_
    exact mx_iret hx hb hr hE hlocks ⟨by rw [show jCmp (mS (u (20 + a))) (mS (u (20 + b))) 0 q = 65536 from if_pos c1], rfl⟩ dX3_compare_25

set_option maxHeartbeats 4000000 in
set_option maxRecDepth 100000 in
/-- compare, 1 steps above the drawers -/
theorem c_X3_compare1 (l : Launch) (G : va_G) (cy : Nat → ClassId) (ad : Nat → Nat) (N K : Nat) (u : Nat → Nat → Int32) (x : mC) (hN6 : N ≤ 6) (hK : K ≤ 20) (sz : Nat) (a b q : Nat) (h_a : a < N) (h_b : b < N) (hq1 : 1 ≤ q) (hq2 : q < 32) (hq : mHt q = 1) : mMi l yX3_compare wsX3_compare ({ frames := 13, cells := 0, slots := 0, locals := 340 }) G cy ad (Si cy ad N K u x) sz [.ref (ad 4), .int (nI a), .int (nI b), .int (nI q)] 0 0 (fun (r : Int32) t => r = nI (jCmp (mS (u (20 + a))) (mS (u (20 + b))) 1 q) ∧ t = (ad, Si cy ad N K u x)) := by
  refine Met.ofW (cc := cX3_compare) (maxL := 4) (ret := (some .int)) (by decide) rfl ?_
  intro p e s m args below meth c s₁ B hml hv
  obtain ⟨rfl, hv⟩ := hv
  have hsz := hv.1
  subst hsz
  have hN := hv.2.2
  have hE := mP_E hv
  have hx := B.exec
  have hb := B.bytes
  have hr := B.returns
  have hts := atoms_spec (ws := wsX3_compare) B.pre
  have hown : s.vm.findClass RX3 = some m.cls := findClass_of_methodNamed B.named
  have hlocks := B.notSynchronized
  have hiX3 : ∀ w ∈ wsX30, w ∈ wsX3_compare := by decide +kernel
  have hl := lv_entry ([.ref (ad 4), .int (nI a), .int (nI b), .int (nI q)]) (n := 4) (Nat.le_of_ble_eq_true rfl)
  rw [lg_entry_eq]
  generalize (lg_sl ([.ref (ad 4), .int (nI a), .int (nI b), .int (nI q)]) ++ List.replicate (4 - (lg_sl ([.ref (ad 4), .int (nI a), .int (nI b), .int (nI q)])).length) Slot.unset).toArray = ls at hl ⊢
  have hl : lv_has ls 4 [(0, .ref (ad 4)), (1, .int (nI a)), (2, .int (nI b)), (3, .int (nI q))] := hl
  have hq15 := jHt_s hq
  have hst := mHt_step q (by omega) (by omega)
  refine lv_aload_n hx hb dX3_compare_0 rfl (lv_at hl 0 rfl) ?_
  refine va_get (D := G) (ci := 3) (v := .ref (ad 5)) (C := RX3) (T := TX3) (N := 3) hx hb hts hiX3 hown hN.1 (mE_P1 hE Q_4) 0 rfl rfl 0 (by decide) (hts (.fieldLink RX3 9 "SealedCupboardsLaw$Sim" "things" "[[I") (by decide +kernel)) (fun _ h9 => h9) rfl dX3_compare_1 ?_
  refine lv_iload_n hx hb dX3_compare_4 rfl (lv_at hl 1 rfl) ?_
  refine mx_ralda hx hb hN hE Q_5 (j := a) rfl (by omega) (by omega) (Q_5at h_a) dX3_compare_5 ?_
  refine lv_iload_n hx hb dX3_compare_6 rfl (lv_at hl 3 rfl) ?_
  refine va_calli (va_runS (As := [.ref (ad (20 + a)), .int (nI q)]) (rest := []) ⟨hx, hb, hml, hown, hts⟩ (c_X3_sum l G cy ad (Si cy ad N K u x) _ (20 + a) q (u (20 + a)) (Q_te h_a rfl) (by omega) (by omega)) (va_cwS 2 hts gX3_compare_X3_sum rfl rfl rfl (by decide +kernel) ⟨Nat.le_of_ble_eq_true rfl, Nat.le_of_ble_eq_true rfl⟩) (mP_S hN hE) rfl rfl hl.1 rfl (lv_room (Nat.le_of_ble_eq_true rfl)) dX3_compare_7 ⟨Nat.le_of_ble_eq_true rfl, Nat.le_of_ble_eq_true rfl⟩) hE.2.2.2 (fun q _ h => mE_A hE q h) (mE_A hE) (fun r uq tq H locs ht hvm hw hB hz1 hk1 hS => ?_)
  obtain ⟨rfl, rfl⟩ := hw
  have hE : mE G (mA ad (Si cy ad N K u x) s.heap.size) s.heap ad (Si cy ad N K u x) H locs := mE_call hE hB ht hS
  refine lv_aload_n hx hb dX3_compare_10 rfl (lv_at hl 0 rfl) ?_
  refine va_get (D := G) (ci := 3) (v := .ref (ad 5)) (C := RX3) (T := TX3) (N := 3) hx hb hts hiX3 hown hN.1 (mE_P1 hE Q_4) 0 rfl rfl 0 (by decide) (hts (.fieldLink RX3 9 "SealedCupboardsLaw$Sim" "things" "[[I") (by decide +kernel)) (fun _ h9 => h9) rfl dX3_compare_11 ?_
  refine lv_iload_n hx hb dX3_compare_14 rfl (lv_at hl 2 rfl) ?_
  refine mx_ralda hx hb hN hE Q_5 (j := b) rfl (by omega) (by omega) (Q_5at h_b) dX3_compare_15 ?_
  refine lv_iload_n hx hb dX3_compare_16 rfl (lv_at hl 3 rfl) ?_
  refine va_calli (va_runS (As := [.ref (ad (20 + b)), .int (nI q)]) (rest := [.int (mS (u (20 + a)) q)]) ⟨hx, hb, hml, hown, hts⟩ (c_X3_sum l G cy ad (Si cy ad N K u x) _ (20 + b) q (u (20 + b)) (Q_te h_b rfl) (by omega) (by omega)) (va_cwS 2 hts gX3_compare_X3_sum rfl rfl rfl (by decide +kernel) ⟨Nat.le_of_ble_eq_true rfl, Nat.le_of_ble_eq_true rfl⟩) (mP_S hN hE) rfl rfl hl.1 rfl (lv_room (Nat.le_of_ble_eq_true rfl)) dX3_compare_17 ⟨Nat.le_of_ble_eq_true rfl, Nat.le_of_ble_eq_true rfl⟩) hE.2.2.2 (fun q _ h => mE_A hE q h) (mE_A hE) (fun r uq tq H locs ht hvm hw hB hz1 hk1 hS => ?_)
  obtain ⟨rfl, rfl⟩ := hw
  have hE : mE G (mA ad (Si cy ad N K u x) s.heap.size) s.heap ad (Si cy ad N K u x) H locs := mE_call hE hB ht hS
  refine lv_icmp_ne (tgt := 26) hx hb dX3_compare_20 (by decide) (fun c1 => ?_) (fun c1 => ?_)
  · skip
    refine lv_iload_n hx hb dX3_compare_26 rfl (lv_at hl 3 rfl) ?_
    refine lv_bipush (v := nI 15) hx hb dX3_compare_27 (by decide) ?_
    refine mv_le (tgt := 42) hx hb (by omega) (by omega) dX3_compare_29 (by decide) (fun c2 => ?_) (fun c2 => ?_)
    · skip
      refine lv_ldc (v := nI 65536) hx hb hown (hts (.constant RX3 29 (nI 65536)) (by decide +kernel)) dX3_compare_42 ?_
      refine lv_aload_n hx hb dX3_compare_44 rfl (lv_at hl 0 rfl) ?_
      refine lv_iload_n hx hb dX3_compare_45 rfl (lv_at hl 1 rfl) ?_
      refine lv_iload_n hx hb dX3_compare_46 rfl (lv_at hl 2 rfl) ?_
      refine lv_iconst (v := nI 2) hx hb dX3_compare_47 (by decide) ?_
      refine lv_iload_n hx hb dX3_compare_48 rfl (lv_at hl 3 rfl) ?_
      refine mv_imul (z := nI (2 * q)) hx hb (pk_mul _ _) dX3_compare_49 ?_
      refine va_calli (va_runV (As := [.int (nI a), .int (nI b), .int (nI (2 * q))]) (rest := [.int (nI 65536)]) ⟨hx, hb, hml, hown, hts⟩ (c_X3_compare0 l G cy ad N K u x hN6 hK _ a b (2 * q) h_a h_b (by omega) (by omega) (by omega)) (cwV 3 hts gX3_compare_X3_compare rfl rfl rfl (by decide +kernel) ⟨Nat.le_of_ble_eq_true rfl, Nat.le_of_ble_eq_true rfl⟩) (mP_V (r := (RX3, TX3, 3)) hN hE Q_4 rfl) rfl rfl hl.1 rfl (lv_room (Nat.le_of_ble_eq_true rfl)) dX3_compare_50 ⟨Nat.le_of_ble_eq_true rfl, Nat.le_of_ble_eq_true rfl⟩) hE.2.2.2 (fun q _ h => mE_A hE q h) (mE_A hE) (fun r uq tq H locs ht hvm hw hB hz1 hk1 hS => ?_)
      obtain ⟨rfl, rfl⟩ := hw
      have hE : mE G (mA ad (Si cy ad N K u x) s.heap.size) s.heap ad (Si cy ad N K u x) H locs := mE_call hE hB ht hS
      refine mv_iadd (z := nI (65536 + (jCmp (mS (u (20 + a))) (mS (u (20 + b))) 0 (2 * q)))) hx hb (nI_add _ _) dX3_compare_53 ?_
      refine lv_aload_n hx hb dX3_compare_54 rfl (lv_at hl 0 rfl) ?_
      refine lv_iload_n hx hb dX3_compare_55 rfl (lv_at hl 1 rfl) ?_
      refine lv_iload_n hx hb dX3_compare_56 rfl (lv_at hl 2 rfl) ?_
      refine lv_iconst (v := nI 2) hx hb dX3_compare_57 (by decide) ?_
      refine lv_iload_n hx hb dX3_compare_58 rfl (lv_at hl 3 rfl) ?_
      refine mv_imul (z := nI (2 * q)) hx hb (pk_mul _ _) dX3_compare_59 ?_
      refine lv_iconst (v := nI 1) hx hb dX3_compare_60 (by decide) ?_
      refine mv_iadd (z := nI ((2 * q) + 1)) hx hb (nI_add _ _) dX3_compare_61 ?_
      refine va_calli (va_runV (As := [.int (nI a), .int (nI b), .int (nI ((2 * q) + 1))]) (rest := [.int (nI (65536 + (jCmp (mS (u (20 + a))) (mS (u (20 + b))) 0 (2 * q))))]) ⟨hx, hb, hml, hown, hts⟩ (c_X3_compare0 l G cy ad N K u x hN6 hK _ a b ((2 * q) + 1) h_a h_b (by omega) (by omega) (by omega)) (cwV 3 hts gX3_compare_X3_compare rfl rfl rfl (by decide +kernel) ⟨Nat.le_of_ble_eq_true rfl, Nat.le_of_ble_eq_true rfl⟩) (mP_V (r := (RX3, TX3, 3)) hN hE Q_4 rfl) rfl rfl hl.1 rfl (lv_room (Nat.le_of_ble_eq_true rfl)) dX3_compare_62 ⟨Nat.le_of_ble_eq_true rfl, Nat.le_of_ble_eq_true rfl⟩) hE.2.2.2 (fun q _ h => mE_A hE q h) (mE_A hE) (fun r uq tq H locs ht hvm hw hB hz1 hk1 hS => ?_)
      obtain ⟨rfl, rfl⟩ := hw
      have hE : mE G (mA ad (Si cy ad N K u x) s.heap.size) s.heap ad (Si cy ad N K u x) H locs := mE_call hE hB ht hS
      refine mv_iadd (z := nI ((65536 + (jCmp (mS (u (20 + a))) (mS (u (20 + b))) 0 (2 * q))) + (jCmp (mS (u (20 + a))) (mS (u (20 + b))) 0 ((2 * q) + 1)))) hx hb (nI_add _ _) dX3_compare_65 ?_
      exact mx_iret hx hb hr hE hlocks ⟨by rw [show jCmp (mS (u (20 + a))) (mS (u (20 + b))) 1 q = (65536 + (jCmp (mS (u (20 + a))) (mS (u (20 + b))) 0 (2 * q))) + (jCmp (mS (u (20 + a))) (mS (u (20 + b))) 0 ((2 * q) + 1)) from if_neg c1], rfl⟩ dX3_compare_66
    · skip
      exfalso; omega
  · skip
    refine lv_ldc (v := nI 65536) hx hb hown (hts (.constant RX3 29 (nI 65536)) (by decide +kernel)) dX3_compare_23 ?_
    exact mx_iret hx hb hr hE hlocks ⟨by rw [show jCmp (mS (u (20 + a))) (mS (u (20 + b))) 1 q = 65536 from if_pos c1], rfl⟩ dX3_compare_25

set_option maxHeartbeats 4000000 in
set_option maxRecDepth 100000 in
/-- compare, 2 steps above the drawers -/
theorem c_X3_compare2 (l : Launch) (G : va_G) (cy : Nat → ClassId) (ad : Nat → Nat) (N K : Nat) (u : Nat → Nat → Int32) (x : mC) (hN6 : N ≤ 6) (hK : K ≤ 20) (sz : Nat) (a b q : Nat) (h_a : a < N) (h_b : b < N) (hq1 : 1 ≤ q) (hq2 : q < 32) (hq : mHt q = 2) : mMi l yX3_compare wsX3_compare ({ frames := 14, cells := 0, slots := 0, locals := 380 }) G cy ad (Si cy ad N K u x) sz [.ref (ad 4), .int (nI a), .int (nI b), .int (nI q)] 0 0 (fun (r : Int32) t => r = nI (jCmp (mS (u (20 + a))) (mS (u (20 + b))) 2 q) ∧ t = (ad, Si cy ad N K u x)) := by
  refine Met.ofW (cc := cX3_compare) (maxL := 4) (ret := (some .int)) (by decide) rfl ?_
  intro p e s m args below meth c s₁ B hml hv
  obtain ⟨rfl, hv⟩ := hv
  have hsz := hv.1
  subst hsz
  have hN := hv.2.2
  have hE := mP_E hv
  have hx := B.exec
  have hb := B.bytes
  have hr := B.returns
  have hts := atoms_spec (ws := wsX3_compare) B.pre
  have hown : s.vm.findClass RX3 = some m.cls := findClass_of_methodNamed B.named
  have hlocks := B.notSynchronized
  have hiX3 : ∀ w ∈ wsX30, w ∈ wsX3_compare := by decide +kernel
  have hl := lv_entry ([.ref (ad 4), .int (nI a), .int (nI b), .int (nI q)]) (n := 4) (Nat.le_of_ble_eq_true rfl)
  rw [lg_entry_eq]
  generalize (lg_sl ([.ref (ad 4), .int (nI a), .int (nI b), .int (nI q)]) ++ List.replicate (4 - (lg_sl ([.ref (ad 4), .int (nI a), .int (nI b), .int (nI q)])).length) Slot.unset).toArray = ls at hl ⊢
  have hl : lv_has ls 4 [(0, .ref (ad 4)), (1, .int (nI a)), (2, .int (nI b)), (3, .int (nI q))] := hl
  have hq15 := jHt_s hq
  have hst := mHt_step q (by omega) (by omega)
  refine lv_aload_n hx hb dX3_compare_0 rfl (lv_at hl 0 rfl) ?_
  refine va_get (D := G) (ci := 3) (v := .ref (ad 5)) (C := RX3) (T := TX3) (N := 3) hx hb hts hiX3 hown hN.1 (mE_P1 hE Q_4) 0 rfl rfl 0 (by decide) (hts (.fieldLink RX3 9 "SealedCupboardsLaw$Sim" "things" "[[I") (by decide +kernel)) (fun _ h9 => h9) rfl dX3_compare_1 ?_
  refine lv_iload_n hx hb dX3_compare_4 rfl (lv_at hl 1 rfl) ?_
  refine mx_ralda hx hb hN hE Q_5 (j := a) rfl (by omega) (by omega) (Q_5at h_a) dX3_compare_5 ?_
  refine lv_iload_n hx hb dX3_compare_6 rfl (lv_at hl 3 rfl) ?_
  refine va_calli (va_runS (As := [.ref (ad (20 + a)), .int (nI q)]) (rest := []) ⟨hx, hb, hml, hown, hts⟩ (c_X3_sum l G cy ad (Si cy ad N K u x) _ (20 + a) q (u (20 + a)) (Q_te h_a rfl) (by omega) (by omega)) (va_cwS 2 hts gX3_compare_X3_sum rfl rfl rfl (by decide +kernel) ⟨Nat.le_of_ble_eq_true rfl, Nat.le_of_ble_eq_true rfl⟩) (mP_S hN hE) rfl rfl hl.1 rfl (lv_room (Nat.le_of_ble_eq_true rfl)) dX3_compare_7 ⟨Nat.le_of_ble_eq_true rfl, Nat.le_of_ble_eq_true rfl⟩) hE.2.2.2 (fun q _ h => mE_A hE q h) (mE_A hE) (fun r uq tq H locs ht hvm hw hB hz1 hk1 hS => ?_)
  obtain ⟨rfl, rfl⟩ := hw
  have hE : mE G (mA ad (Si cy ad N K u x) s.heap.size) s.heap ad (Si cy ad N K u x) H locs := mE_call hE hB ht hS
  refine lv_aload_n hx hb dX3_compare_10 rfl (lv_at hl 0 rfl) ?_
  refine va_get (D := G) (ci := 3) (v := .ref (ad 5)) (C := RX3) (T := TX3) (N := 3) hx hb hts hiX3 hown hN.1 (mE_P1 hE Q_4) 0 rfl rfl 0 (by decide) (hts (.fieldLink RX3 9 "SealedCupboardsLaw$Sim" "things" "[[I") (by decide +kernel)) (fun _ h9 => h9) rfl dX3_compare_11 ?_
  refine lv_iload_n hx hb dX3_compare_14 rfl (lv_at hl 2 rfl) ?_
  refine mx_ralda hx hb hN hE Q_5 (j := b) rfl (by omega) (by omega) (Q_5at h_b) dX3_compare_15 ?_
  refine lv_iload_n hx hb dX3_compare_16 rfl (lv_at hl 3 rfl) ?_
  refine va_calli (va_runS (As := [.ref (ad (20 + b)), .int (nI q)]) (rest := [.int (mS (u (20 + a)) q)]) ⟨hx, hb, hml, hown, hts⟩ (c_X3_sum l G cy ad (Si cy ad N K u x) _ (20 + b) q (u (20 + b)) (Q_te h_b rfl) (by omega) (by omega)) (va_cwS 2 hts gX3_compare_X3_sum rfl rfl rfl (by decide +kernel) ⟨Nat.le_of_ble_eq_true rfl, Nat.le_of_ble_eq_true rfl⟩) (mP_S hN hE) rfl rfl hl.1 rfl (lv_room (Nat.le_of_ble_eq_true rfl)) dX3_compare_17 ⟨Nat.le_of_ble_eq_true rfl, Nat.le_of_ble_eq_true rfl⟩) hE.2.2.2 (fun q _ h => mE_A hE q h) (mE_A hE) (fun r uq tq H locs ht hvm hw hB hz1 hk1 hS => ?_)
  obtain ⟨rfl, rfl⟩ := hw
  have hE : mE G (mA ad (Si cy ad N K u x) s.heap.size) s.heap ad (Si cy ad N K u x) H locs := mE_call hE hB ht hS
  refine lv_icmp_ne (tgt := 26) hx hb dX3_compare_20 (by decide) (fun c1 => ?_) (fun c1 => ?_)
  · skip
    refine lv_iload_n hx hb dX3_compare_26 rfl (lv_at hl 3 rfl) ?_
    refine lv_bipush (v := nI 15) hx hb dX3_compare_27 (by decide) ?_
    refine mv_le (tgt := 42) hx hb (by omega) (by omega) dX3_compare_29 (by decide) (fun c2 => ?_) (fun c2 => ?_)
    · skip
      refine lv_ldc (v := nI 65536) hx hb hown (hts (.constant RX3 29 (nI 65536)) (by decide +kernel)) dX3_compare_42 ?_
      refine lv_aload_n hx hb dX3_compare_44 rfl (lv_at hl 0 rfl) ?_
      refine lv_iload_n hx hb dX3_compare_45 rfl (lv_at hl 1 rfl) ?_
      refine lv_iload_n hx hb dX3_compare_46 rfl (lv_at hl 2 rfl) ?_
      refine lv_iconst (v := nI 2) hx hb dX3_compare_47 (by decide) ?_
      refine lv_iload_n hx hb dX3_compare_48 rfl (lv_at hl 3 rfl) ?_
      refine mv_imul (z := nI (2 * q)) hx hb (pk_mul _ _) dX3_compare_49 ?_
      refine va_calli (va_runV (As := [.int (nI a), .int (nI b), .int (nI (2 * q))]) (rest := [.int (nI 65536)]) ⟨hx, hb, hml, hown, hts⟩ (c_X3_compare1 l G cy ad N K u x hN6 hK _ a b (2 * q) h_a h_b (by omega) (by omega) (by omega)) (cwV 3 hts gX3_compare_X3_compare rfl rfl rfl (by decide +kernel) ⟨Nat.le_of_ble_eq_true rfl, Nat.le_of_ble_eq_true rfl⟩) (mP_V (r := (RX3, TX3, 3)) hN hE Q_4 rfl) rfl rfl hl.1 rfl (lv_room (Nat.le_of_ble_eq_true rfl)) dX3_compare_50 ⟨Nat.le_of_ble_eq_true rfl, Nat.le_of_ble_eq_true rfl⟩) hE.2.2.2 (fun q _ h => mE_A hE q h) (mE_A hE) (fun r uq tq H locs ht hvm hw hB hz1 hk1 hS => ?_)
      obtain ⟨rfl, rfl⟩ := hw
      have hE : mE G (mA ad (Si cy ad N K u x) s.heap.size) s.heap ad (Si cy ad N K u x) H locs := mE_call hE hB ht hS
      refine mv_iadd (z := nI (65536 + (jCmp (mS (u (20 + a))) (mS (u (20 + b))) 1 (2 * q)))) hx hb (nI_add _ _) dX3_compare_53 ?_
      refine lv_aload_n hx hb dX3_compare_54 rfl (lv_at hl 0 rfl) ?_
      refine lv_iload_n hx hb dX3_compare_55 rfl (lv_at hl 1 rfl) ?_
      refine lv_iload_n hx hb dX3_compare_56 rfl (lv_at hl 2 rfl) ?_
      refine lv_iconst (v := nI 2) hx hb dX3_compare_57 (by decide) ?_
      refine lv_iload_n hx hb dX3_compare_58 rfl (lv_at hl 3 rfl) ?_
      refine mv_imul (z := nI (2 * q)) hx hb (pk_mul _ _) dX3_compare_59 ?_
      refine lv_iconst (v := nI 1) hx hb dX3_compare_60 (by decide) ?_
      refine mv_iadd (z := nI ((2 * q) + 1)) hx hb (nI_add _ _) dX3_compare_61 ?_
      refine va_calli (va_runV (As := [.int (nI a), .int (nI b), .int (nI ((2 * q) + 1))]) (rest := [.int (nI (65536 + (jCmp (mS (u (20 + a))) (mS (u (20 + b))) 1 (2 * q))))]) ⟨hx, hb, hml, hown, hts⟩ (c_X3_compare1 l G cy ad N K u x hN6 hK _ a b ((2 * q) + 1) h_a h_b (by omega) (by omega) (by omega)) (cwV 3 hts gX3_compare_X3_compare rfl rfl rfl (by decide +kernel) ⟨Nat.le_of_ble_eq_true rfl, Nat.le_of_ble_eq_true rfl⟩) (mP_V (r := (RX3, TX3, 3)) hN hE Q_4 rfl) rfl rfl hl.1 rfl (lv_room (Nat.le_of_ble_eq_true rfl)) dX3_compare_62 ⟨Nat.le_of_ble_eq_true rfl, Nat.le_of_ble_eq_true rfl⟩) hE.2.2.2 (fun q _ h => mE_A hE q h) (mE_A hE) (fun r uq tq H locs ht hvm hw hB hz1 hk1 hS => ?_)
      obtain ⟨rfl, rfl⟩ := hw
      have hE : mE G (mA ad (Si cy ad N K u x) s.heap.size) s.heap ad (Si cy ad N K u x) H locs := mE_call hE hB ht hS
      refine mv_iadd (z := nI ((65536 + (jCmp (mS (u (20 + a))) (mS (u (20 + b))) 1 (2 * q))) + (jCmp (mS (u (20 + a))) (mS (u (20 + b))) 1 ((2 * q) + 1)))) hx hb (nI_add _ _) dX3_compare_65 ?_
      exact mx_iret hx hb hr hE hlocks ⟨by rw [show jCmp (mS (u (20 + a))) (mS (u (20 + b))) 2 q = (65536 + (jCmp (mS (u (20 + a))) (mS (u (20 + b))) 1 (2 * q))) + (jCmp (mS (u (20 + a))) (mS (u (20 + b))) 1 ((2 * q) + 1)) from if_neg c1], rfl⟩ dX3_compare_66
    · skip
      exfalso; omega
  · skip
    refine lv_ldc (v := nI 65536) hx hb hown (hts (.constant RX3 29 (nI 65536)) (by decide +kernel)) dX3_compare_23 ?_
    exact mx_iret hx hb hr hE hlocks ⟨by rw [show jCmp (mS (u (20 + a))) (mS (u (20 + b))) 2 q = 65536 from if_pos c1], rfl⟩ dX3_compare_25

set_option maxHeartbeats 4000000 in
set_option maxRecDepth 100000 in
/-- compare, 3 steps above the drawers -/
theorem c_X3_compare3 (l : Launch) (G : va_G) (cy : Nat → ClassId) (ad : Nat → Nat) (N K : Nat) (u : Nat → Nat → Int32) (x : mC) (hN6 : N ≤ 6) (hK : K ≤ 20) (sz : Nat) (a b q : Nat) (h_a : a < N) (h_b : b < N) (hq1 : 1 ≤ q) (hq2 : q < 32) (hq : mHt q = 3) : mMi l yX3_compare wsX3_compare ({ frames := 15, cells := 0, slots := 0, locals := 420 }) G cy ad (Si cy ad N K u x) sz [.ref (ad 4), .int (nI a), .int (nI b), .int (nI q)] 0 0 (fun (r : Int32) t => r = nI (jCmp (mS (u (20 + a))) (mS (u (20 + b))) 3 q) ∧ t = (ad, Si cy ad N K u x)) := by
  refine Met.ofW (cc := cX3_compare) (maxL := 4) (ret := (some .int)) (by decide) rfl ?_
  intro p e s m args below meth c s₁ B hml hv
  obtain ⟨rfl, hv⟩ := hv
  have hsz := hv.1
  subst hsz
  have hN := hv.2.2
  have hE := mP_E hv
  have hx := B.exec
  have hb := B.bytes
  have hr := B.returns
  have hts := atoms_spec (ws := wsX3_compare) B.pre
  have hown : s.vm.findClass RX3 = some m.cls := findClass_of_methodNamed B.named
  have hlocks := B.notSynchronized
  have hiX3 : ∀ w ∈ wsX30, w ∈ wsX3_compare := by decide +kernel
  have hl := lv_entry ([.ref (ad 4), .int (nI a), .int (nI b), .int (nI q)]) (n := 4) (Nat.le_of_ble_eq_true rfl)
  rw [lg_entry_eq]
  generalize (lg_sl ([.ref (ad 4), .int (nI a), .int (nI b), .int (nI q)]) ++ List.replicate (4 - (lg_sl ([.ref (ad 4), .int (nI a), .int (nI b), .int (nI q)])).length) Slot.unset).toArray = ls at hl ⊢
  have hl : lv_has ls 4 [(0, .ref (ad 4)), (1, .int (nI a)), (2, .int (nI b)), (3, .int (nI q))] := hl
  have hq15 := jHt_s hq
  have hst := mHt_step q (by omega) (by omega)
  refine lv_aload_n hx hb dX3_compare_0 rfl (lv_at hl 0 rfl) ?_
  refine va_get (D := G) (ci := 3) (v := .ref (ad 5)) (C := RX3) (T := TX3) (N := 3) hx hb hts hiX3 hown hN.1 (mE_P1 hE Q_4) 0 rfl rfl 0 (by decide) (hts (.fieldLink RX3 9 "SealedCupboardsLaw$Sim" "things" "[[I") (by decide +kernel)) (fun _ h9 => h9) rfl dX3_compare_1 ?_
  refine lv_iload_n hx hb dX3_compare_4 rfl (lv_at hl 1 rfl) ?_
  refine mx_ralda hx hb hN hE Q_5 (j := a) rfl (by omega) (by omega) (Q_5at h_a) dX3_compare_5 ?_
  refine lv_iload_n hx hb dX3_compare_6 rfl (lv_at hl 3 rfl) ?_
  refine va_calli (va_runS (As := [.ref (ad (20 + a)), .int (nI q)]) (rest := []) ⟨hx, hb, hml, hown, hts⟩ (c_X3_sum l G cy ad (Si cy ad N K u x) _ (20 + a) q (u (20 + a)) (Q_te h_a rfl) (by omega) (by omega)) (va_cwS 2 hts gX3_compare_X3_sum rfl rfl rfl (by decide +kernel) ⟨Nat.le_of_ble_eq_true rfl, Nat.le_of_ble_eq_true rfl⟩) (mP_S hN hE) rfl rfl hl.1 rfl (lv_room (Nat.le_of_ble_eq_true rfl)) dX3_compare_7 ⟨Nat.le_of_ble_eq_true rfl, Nat.le_of_ble_eq_true rfl⟩) hE.2.2.2 (fun q _ h => mE_A hE q h) (mE_A hE) (fun r uq tq H locs ht hvm hw hB hz1 hk1 hS => ?_)
  obtain ⟨rfl, rfl⟩ := hw
  have hE : mE G (mA ad (Si cy ad N K u x) s.heap.size) s.heap ad (Si cy ad N K u x) H locs := mE_call hE hB ht hS
  refine lv_aload_n hx hb dX3_compare_10 rfl (lv_at hl 0 rfl) ?_
  refine va_get (D := G) (ci := 3) (v := .ref (ad 5)) (C := RX3) (T := TX3) (N := 3) hx hb hts hiX3 hown hN.1 (mE_P1 hE Q_4) 0 rfl rfl 0 (by decide) (hts (.fieldLink RX3 9 "SealedCupboardsLaw$Sim" "things" "[[I") (by decide +kernel)) (fun _ h9 => h9) rfl dX3_compare_11 ?_
  refine lv_iload_n hx hb dX3_compare_14 rfl (lv_at hl 2 rfl) ?_
  refine mx_ralda hx hb hN hE Q_5 (j := b) rfl (by omega) (by omega) (Q_5at h_b) dX3_compare_15 ?_
  refine lv_iload_n hx hb dX3_compare_16 rfl (lv_at hl 3 rfl) ?_
  refine va_calli (va_runS (As := [.ref (ad (20 + b)), .int (nI q)]) (rest := [.int (mS (u (20 + a)) q)]) ⟨hx, hb, hml, hown, hts⟩ (c_X3_sum l G cy ad (Si cy ad N K u x) _ (20 + b) q (u (20 + b)) (Q_te h_b rfl) (by omega) (by omega)) (va_cwS 2 hts gX3_compare_X3_sum rfl rfl rfl (by decide +kernel) ⟨Nat.le_of_ble_eq_true rfl, Nat.le_of_ble_eq_true rfl⟩) (mP_S hN hE) rfl rfl hl.1 rfl (lv_room (Nat.le_of_ble_eq_true rfl)) dX3_compare_17 ⟨Nat.le_of_ble_eq_true rfl, Nat.le_of_ble_eq_true rfl⟩) hE.2.2.2 (fun q _ h => mE_A hE q h) (mE_A hE) (fun r uq tq H locs ht hvm hw hB hz1 hk1 hS => ?_)
  obtain ⟨rfl, rfl⟩ := hw
  have hE : mE G (mA ad (Si cy ad N K u x) s.heap.size) s.heap ad (Si cy ad N K u x) H locs := mE_call hE hB ht hS
  refine lv_icmp_ne (tgt := 26) hx hb dX3_compare_20 (by decide) (fun c1 => ?_) (fun c1 => ?_)
  · skip
    refine lv_iload_n hx hb dX3_compare_26 rfl (lv_at hl 3 rfl) ?_
    refine lv_bipush (v := nI 15) hx hb dX3_compare_27 (by decide) ?_
    refine mv_le (tgt := 42) hx hb (by omega) (by omega) dX3_compare_29 (by decide) (fun c2 => ?_) (fun c2 => ?_)
    · skip
      refine lv_ldc (v := nI 65536) hx hb hown (hts (.constant RX3 29 (nI 65536)) (by decide +kernel)) dX3_compare_42 ?_
      refine lv_aload_n hx hb dX3_compare_44 rfl (lv_at hl 0 rfl) ?_
      refine lv_iload_n hx hb dX3_compare_45 rfl (lv_at hl 1 rfl) ?_
      refine lv_iload_n hx hb dX3_compare_46 rfl (lv_at hl 2 rfl) ?_
      refine lv_iconst (v := nI 2) hx hb dX3_compare_47 (by decide) ?_
      refine lv_iload_n hx hb dX3_compare_48 rfl (lv_at hl 3 rfl) ?_
      refine mv_imul (z := nI (2 * q)) hx hb (pk_mul _ _) dX3_compare_49 ?_
      refine va_calli (va_runV (As := [.int (nI a), .int (nI b), .int (nI (2 * q))]) (rest := [.int (nI 65536)]) ⟨hx, hb, hml, hown, hts⟩ (c_X3_compare2 l G cy ad N K u x hN6 hK _ a b (2 * q) h_a h_b (by omega) (by omega) (by omega)) (cwV 3 hts gX3_compare_X3_compare rfl rfl rfl (by decide +kernel) ⟨Nat.le_of_ble_eq_true rfl, Nat.le_of_ble_eq_true rfl⟩) (mP_V (r := (RX3, TX3, 3)) hN hE Q_4 rfl) rfl rfl hl.1 rfl (lv_room (Nat.le_of_ble_eq_true rfl)) dX3_compare_50 ⟨Nat.le_of_ble_eq_true rfl, Nat.le_of_ble_eq_true rfl⟩) hE.2.2.2 (fun q _ h => mE_A hE q h) (mE_A hE) (fun r uq tq H locs ht hvm hw hB hz1 hk1 hS => ?_)
      obtain ⟨rfl, rfl⟩ := hw
      have hE : mE G (mA ad (Si cy ad N K u x) s.heap.size) s.heap ad (Si cy ad N K u x) H locs := mE_call hE hB ht hS
      refine mv_iadd (z := nI (65536 + (jCmp (mS (u (20 + a))) (mS (u (20 + b))) 2 (2 * q)))) hx hb (nI_add _ _) dX3_compare_53 ?_
      refine lv_aload_n hx hb dX3_compare_54 rfl (lv_at hl 0 rfl) ?_
      refine lv_iload_n hx hb dX3_compare_55 rfl (lv_at hl 1 rfl) ?_
      refine lv_iload_n hx hb dX3_compare_56 rfl (lv_at hl 2 rfl) ?_
      refine lv_iconst (v := nI 2) hx hb dX3_compare_57 (by decide) ?_
      refine lv_iload_n hx hb dX3_compare_58 rfl (lv_at hl 3 rfl) ?_
      refine mv_imul (z := nI (2 * q)) hx hb (pk_mul _ _) dX3_compare_59 ?_
      refine lv_iconst (v := nI 1) hx hb dX3_compare_60 (by decide) ?_
      refine mv_iadd (z := nI ((2 * q) + 1)) hx hb (nI_add _ _) dX3_compare_61 ?_
      refine va_calli (va_runV (As := [.int (nI a), .int (nI b), .int (nI ((2 * q) + 1))]) (rest := [.int (nI (65536 + (jCmp (mS (u (20 + a))) (mS (u (20 + b))) 2 (2 * q))))]) ⟨hx, hb, hml, hown, hts⟩ (c_X3_compare2 l G cy ad N K u x hN6 hK _ a b ((2 * q) + 1) h_a h_b (by omega) (by omega) (by omega)) (cwV 3 hts gX3_compare_X3_compare rfl rfl rfl (by decide +kernel) ⟨Nat.le_of_ble_eq_true rfl, Nat.le_of_ble_eq_true rfl⟩) (mP_V (r := (RX3, TX3, 3)) hN hE Q_4 rfl) rfl rfl hl.1 rfl (lv_room (Nat.le_of_ble_eq_true rfl)) dX3_compare_62 ⟨Nat.le_of_ble_eq_true rfl, Nat.le_of_ble_eq_true rfl⟩) hE.2.2.2 (fun q _ h => mE_A hE q h) (mE_A hE) (fun r uq tq H locs ht hvm hw hB hz1 hk1 hS => ?_)
      obtain ⟨rfl, rfl⟩ := hw
      have hE : mE G (mA ad (Si cy ad N K u x) s.heap.size) s.heap ad (Si cy ad N K u x) H locs := mE_call hE hB ht hS
      refine mv_iadd (z := nI ((65536 + (jCmp (mS (u (20 + a))) (mS (u (20 + b))) 2 (2 * q))) + (jCmp (mS (u (20 + a))) (mS (u (20 + b))) 2 ((2 * q) + 1)))) hx hb (nI_add _ _) dX3_compare_65 ?_
      exact mx_iret hx hb hr hE hlocks ⟨by rw [show jCmp (mS (u (20 + a))) (mS (u (20 + b))) 3 q = (65536 + (jCmp (mS (u (20 + a))) (mS (u (20 + b))) 2 (2 * q))) + (jCmp (mS (u (20 + a))) (mS (u (20 + b))) 2 ((2 * q) + 1)) from if_neg c1], rfl⟩ dX3_compare_66
    · skip
      exfalso; omega
  · skip
    refine lv_ldc (v := nI 65536) hx hb hown (hts (.constant RX3 29 (nI 65536)) (by decide +kernel)) dX3_compare_23 ?_
    exact mx_iret hx hb hr hE hlocks ⟨by rw [show jCmp (mS (u (20 + a))) (mS (u (20 + b))) 3 q = 65536 from if_pos c1], rfl⟩ dX3_compare_25

set_option maxHeartbeats 4000000 in
set_option maxRecDepth 100000 in
/-- compare, 4 steps above the drawers -/
theorem c_X3_compare4 (l : Launch) (G : va_G) (cy : Nat → ClassId) (ad : Nat → Nat) (N K : Nat) (u : Nat → Nat → Int32) (x : mC) (hN6 : N ≤ 6) (hK : K ≤ 20) (sz : Nat) (a b q : Nat) (h_a : a < N) (h_b : b < N) (hq1 : 1 ≤ q) (hq2 : q < 32) (hq : mHt q = 4) : mMi l yX3_compare wsX3_compare ({ frames := 16, cells := 0, slots := 0, locals := 460 }) G cy ad (Si cy ad N K u x) sz [.ref (ad 4), .int (nI a), .int (nI b), .int (nI q)] 0 0 (fun (r : Int32) t => r = nI (jCmp (mS (u (20 + a))) (mS (u (20 + b))) 4 q) ∧ t = (ad, Si cy ad N K u x)) := by
  refine Met.ofW (cc := cX3_compare) (maxL := 4) (ret := (some .int)) (by decide) rfl ?_
  intro p e s m args below meth c s₁ B hml hv
  obtain ⟨rfl, hv⟩ := hv
  have hsz := hv.1
  subst hsz
  have hN := hv.2.2
  have hE := mP_E hv
  have hx := B.exec
  have hb := B.bytes
  have hr := B.returns
  have hts := atoms_spec (ws := wsX3_compare) B.pre
  have hown : s.vm.findClass RX3 = some m.cls := findClass_of_methodNamed B.named
  have hlocks := B.notSynchronized
  have hiX3 : ∀ w ∈ wsX30, w ∈ wsX3_compare := by decide +kernel
  have hl := lv_entry ([.ref (ad 4), .int (nI a), .int (nI b), .int (nI q)]) (n := 4) (Nat.le_of_ble_eq_true rfl)
  rw [lg_entry_eq]
  generalize (lg_sl ([.ref (ad 4), .int (nI a), .int (nI b), .int (nI q)]) ++ List.replicate (4 - (lg_sl ([.ref (ad 4), .int (nI a), .int (nI b), .int (nI q)])).length) Slot.unset).toArray = ls at hl ⊢
  have hl : lv_has ls 4 [(0, .ref (ad 4)), (1, .int (nI a)), (2, .int (nI b)), (3, .int (nI q))] := hl
  have hq15 := jHt_s hq
  have hst := mHt_step q (by omega) (by omega)
  refine lv_aload_n hx hb dX3_compare_0 rfl (lv_at hl 0 rfl) ?_
  refine va_get (D := G) (ci := 3) (v := .ref (ad 5)) (C := RX3) (T := TX3) (N := 3) hx hb hts hiX3 hown hN.1 (mE_P1 hE Q_4) 0 rfl rfl 0 (by decide) (hts (.fieldLink RX3 9 "SealedCupboardsLaw$Sim" "things" "[[I") (by decide +kernel)) (fun _ h9 => h9) rfl dX3_compare_1 ?_
  refine lv_iload_n hx hb dX3_compare_4 rfl (lv_at hl 1 rfl) ?_
  refine mx_ralda hx hb hN hE Q_5 (j := a) rfl (by omega) (by omega) (Q_5at h_a) dX3_compare_5 ?_
  refine lv_iload_n hx hb dX3_compare_6 rfl (lv_at hl 3 rfl) ?_
  refine va_calli (va_runS (As := [.ref (ad (20 + a)), .int (nI q)]) (rest := []) ⟨hx, hb, hml, hown, hts⟩ (c_X3_sum l G cy ad (Si cy ad N K u x) _ (20 + a) q (u (20 + a)) (Q_te h_a rfl) (by omega) (by omega)) (va_cwS 2 hts gX3_compare_X3_sum rfl rfl rfl (by decide +kernel) ⟨Nat.le_of_ble_eq_true rfl, Nat.le_of_ble_eq_true rfl⟩) (mP_S hN hE) rfl rfl hl.1 rfl (lv_room (Nat.le_of_ble_eq_true rfl)) dX3_compare_7 ⟨Nat.le_of_ble_eq_true rfl, Nat.le_of_ble_eq_true rfl⟩) hE.2.2.2 (fun q _ h => mE_A hE q h) (mE_A hE) (fun r uq tq H locs ht hvm hw hB hz1 hk1 hS => ?_)
  obtain ⟨rfl, rfl⟩ := hw
  have hE : mE G (mA ad (Si cy ad N K u x) s.heap.size) s.heap ad (Si cy ad N K u x) H locs := mE_call hE hB ht hS
  refine lv_aload_n hx hb dX3_compare_10 rfl (lv_at hl 0 rfl) ?_
  refine va_get (D := G) (ci := 3) (v := .ref (ad 5)) (C := RX3) (T := TX3) (N := 3) hx hb hts hiX3 hown hN.1 (mE_P1 hE Q_4) 0 rfl rfl 0 (by decide) (hts (.fieldLink RX3 9 "SealedCupboardsLaw$Sim" "things" "[[I") (by decide +kernel)) (fun _ h9 => h9) rfl dX3_compare_11 ?_
  refine lv_iload_n hx hb dX3_compare_14 rfl (lv_at hl 2 rfl) ?_
  refine mx_ralda hx hb hN hE Q_5 (j := b) rfl (by omega) (by omega) (Q_5at h_b) dX3_compare_15 ?_
  refine lv_iload_n hx hb dX3_compare_16 rfl (lv_at hl 3 rfl) ?_
  refine va_calli (va_runS (As := [.ref (ad (20 + b)), .int (nI q)]) (rest := [.int (mS (u (20 + a)) q)]) ⟨hx, hb, hml, hown, hts⟩ (c_X3_sum l G cy ad (Si cy ad N K u x) _ (20 + b) q (u (20 + b)) (Q_te h_b rfl) (by omega) (by omega)) (va_cwS 2 hts gX3_compare_X3_sum rfl rfl rfl (by decide +kernel) ⟨Nat.le_of_ble_eq_true rfl, Nat.le_of_ble_eq_true rfl⟩) (mP_S hN hE) rfl rfl hl.1 rfl (lv_room (Nat.le_of_ble_eq_true rfl)) dX3_compare_17 ⟨Nat.le_of_ble_eq_true rfl, Nat.le_of_ble_eq_true rfl⟩) hE.2.2.2 (fun q _ h => mE_A hE q h) (mE_A hE) (fun r uq tq H locs ht hvm hw hB hz1 hk1 hS => ?_)
  obtain ⟨rfl, rfl⟩ := hw
  have hE : mE G (mA ad (Si cy ad N K u x) s.heap.size) s.heap ad (Si cy ad N K u x) H locs := mE_call hE hB ht hS
  refine lv_icmp_ne (tgt := 26) hx hb dX3_compare_20 (by decide) (fun c1 => ?_) (fun c1 => ?_)
  · skip
    refine lv_iload_n hx hb dX3_compare_26 rfl (lv_at hl 3 rfl) ?_
    refine lv_bipush (v := nI 15) hx hb dX3_compare_27 (by decide) ?_
    refine mv_le (tgt := 42) hx hb (by omega) (by omega) dX3_compare_29 (by decide) (fun c2 => ?_) (fun c2 => ?_)
    · skip
      refine lv_ldc (v := nI 65536) hx hb hown (hts (.constant RX3 29 (nI 65536)) (by decide +kernel)) dX3_compare_42 ?_
      refine lv_aload_n hx hb dX3_compare_44 rfl (lv_at hl 0 rfl) ?_
      refine lv_iload_n hx hb dX3_compare_45 rfl (lv_at hl 1 rfl) ?_
      refine lv_iload_n hx hb dX3_compare_46 rfl (lv_at hl 2 rfl) ?_
      refine lv_iconst (v := nI 2) hx hb dX3_compare_47 (by decide) ?_
      refine lv_iload_n hx hb dX3_compare_48 rfl (lv_at hl 3 rfl) ?_
      refine mv_imul (z := nI (2 * q)) hx hb (pk_mul _ _) dX3_compare_49 ?_
      refine va_calli (va_runV (As := [.int (nI a), .int (nI b), .int (nI (2 * q))]) (rest := [.int (nI 65536)]) ⟨hx, hb, hml, hown, hts⟩ (c_X3_compare3 l G cy ad N K u x hN6 hK _ a b (2 * q) h_a h_b (by omega) (by omega) (by omega)) (cwV 3 hts gX3_compare_X3_compare rfl rfl rfl (by decide +kernel) ⟨Nat.le_of_ble_eq_true rfl, Nat.le_of_ble_eq_true rfl⟩) (mP_V (r := (RX3, TX3, 3)) hN hE Q_4 rfl) rfl rfl hl.1 rfl (lv_room (Nat.le_of_ble_eq_true rfl)) dX3_compare_50 ⟨Nat.le_of_ble_eq_true rfl, Nat.le_of_ble_eq_true rfl⟩) hE.2.2.2 (fun q _ h => mE_A hE q h) (mE_A hE) (fun r uq tq H locs ht hvm hw hB hz1 hk1 hS => ?_)
      obtain ⟨rfl, rfl⟩ := hw
      have hE : mE G (mA ad (Si cy ad N K u x) s.heap.size) s.heap ad (Si cy ad N K u x) H locs := mE_call hE hB ht hS
      refine mv_iadd (z := nI (65536 + (jCmp (mS (u (20 + a))) (mS (u (20 + b))) 3 (2 * q)))) hx hb (nI_add _ _) dX3_compare_53 ?_
      refine lv_aload_n hx hb dX3_compare_54 rfl (lv_at hl 0 rfl) ?_
      refine lv_iload_n hx hb dX3_compare_55 rfl (lv_at hl 1 rfl) ?_
      refine lv_iload_n hx hb dX3_compare_56 rfl (lv_at hl 2 rfl) ?_
      refine lv_iconst (v := nI 2) hx hb dX3_compare_57 (by decide) ?_
      refine lv_iload_n hx hb dX3_compare_58 rfl (lv_at hl 3 rfl) ?_
      refine mv_imul (z := nI (2 * q)) hx hb (pk_mul _ _) dX3_compare_59 ?_
      refine lv_iconst (v := nI 1) hx hb dX3_compare_60 (by decide) ?_
      refine mv_iadd (z := nI ((2 * q) + 1)) hx hb (nI_add _ _) dX3_compare_61 ?_
      refine va_calli (va_runV (As := [.int (nI a), .int (nI b), .int (nI ((2 * q) + 1))]) (rest := [.int (nI (65536 + (jCmp (mS (u (20 + a))) (mS (u (20 + b))) 3 (2 * q))))]) ⟨hx, hb, hml, hown, hts⟩ (c_X3_compare3 l G cy ad N K u x hN6 hK _ a b ((2 * q) + 1) h_a h_b (by omega) (by omega) (by omega)) (cwV 3 hts gX3_compare_X3_compare rfl rfl rfl (by decide +kernel) ⟨Nat.le_of_ble_eq_true rfl, Nat.le_of_ble_eq_true rfl⟩) (mP_V (r := (RX3, TX3, 3)) hN hE Q_4 rfl) rfl rfl hl.1 rfl (lv_room (Nat.le_of_ble_eq_true rfl)) dX3_compare_62 ⟨Nat.le_of_ble_eq_true rfl, Nat.le_of_ble_eq_true rfl⟩) hE.2.2.2 (fun q _ h => mE_A hE q h) (mE_A hE) (fun r uq tq H locs ht hvm hw hB hz1 hk1 hS => ?_)
      obtain ⟨rfl, rfl⟩ := hw
      have hE : mE G (mA ad (Si cy ad N K u x) s.heap.size) s.heap ad (Si cy ad N K u x) H locs := mE_call hE hB ht hS
      refine mv_iadd (z := nI ((65536 + (jCmp (mS (u (20 + a))) (mS (u (20 + b))) 3 (2 * q))) + (jCmp (mS (u (20 + a))) (mS (u (20 + b))) 3 ((2 * q) + 1)))) hx hb (nI_add _ _) dX3_compare_65 ?_
      exact mx_iret hx hb hr hE hlocks ⟨by rw [show jCmp (mS (u (20 + a))) (mS (u (20 + b))) 4 q = (65536 + (jCmp (mS (u (20 + a))) (mS (u (20 + b))) 3 (2 * q))) + (jCmp (mS (u (20 + a))) (mS (u (20 + b))) 3 ((2 * q) + 1)) from if_neg c1], rfl⟩ dX3_compare_66
    · skip
      exfalso; omega
  · skip
    refine lv_ldc (v := nI 65536) hx hb hown (hts (.constant RX3 29 (nI 65536)) (by decide +kernel)) dX3_compare_23 ?_
    exact mx_iret hx hb hr hE hlocks ⟨by rw [show jCmp (mS (u (20 + a))) (mS (u (20 + b))) 4 q = 65536 from if_pos c1], rfl⟩ dX3_compare_25

set_option maxHeartbeats 4000000 in
set_option maxRecDepth 100000 in
/-- mend in the law's own room -/
theorem c_X3_mend (l : Launch) (G : va_G) (cy : Nat → ClassId) (ad : Nat → Nat) (N K : Nat) (u : Nat → Nat → Int32) (x : mC) (hN6 : N ≤ 6) (hK : K ≤ 20) (sz : Nat) (a b z : Nat) (h_a : a < N) (h_b : b < N) (hz : z = jCmp (mS (u (20 + a))) (mS (u (20 + b))) 4 1 % 65536) : mMi l yX3_mend wsX3_mend ({ frames := 17, cells := 0, slots := 0, locals := 500 }) G cy ad (Si cy ad N K u x) sz [.ref (ad 4), .int (nI a), .int (nI b)] 0 0 (fun (r : Int32) t => r = nI (jMen u a b z 16) ∧ t = (ad, Si cy ad N K (jMend u a b z 16) x)) := by
  refine Met.ofW (cc := cX3_mend) (maxL := 6) (ret := (some .int)) (by decide) rfl ?_
  intro p e s m args below meth c s₁ B hml hv
  obtain ⟨rfl, hv⟩ := hv
  have hsz := hv.1
  subst hsz
  have hN := hv.2.2
  have hE := mP_E hv
  have hx := B.exec
  have hb := B.bytes
  have hr := B.returns
  have hts := atoms_spec (ws := wsX3_mend) B.pre
  have hown : s.vm.findClass RX3 = some m.cls := findClass_of_methodNamed B.named
  have hlocks := B.notSynchronized
  have hiX3 : ∀ w ∈ wsX30, w ∈ wsX3_mend := by decide +kernel
  have hl := lv_entry ([.ref (ad 4), .int (nI a), .int (nI b)]) (n := 6) (Nat.le_of_ble_eq_true rfl)
  rw [lg_entry_eq]
  generalize (lg_sl ([.ref (ad 4), .int (nI a), .int (nI b)]) ++ List.replicate (6 - (lg_sl ([.ref (ad 4), .int (nI a), .int (nI b)])).length) Slot.unset).toArray = ls at hl ⊢
  have hl : lv_has ls 6 [(0, .ref (ad 4)), (1, .int (nI a)), (2, .int (nI b))] := hl
  have hjc := jCmp_lt (mS (u (20 + a))) (mS (u (20 + b)))
  have hz2 : z < 65536 := by rw [hz]; exact Nat.mod_lt _ (by decide)
  refine lv_aload_n hx hb dX3_mend_0 rfl (lv_at hl 0 rfl) ?_
  refine lv_iload_n hx hb dX3_mend_1 rfl (lv_at hl 1 rfl) ?_
  refine lv_iload_n hx hb dX3_mend_2 rfl (lv_at hl 2 rfl) ?_
  refine lv_iconst (v := nI 1) hx hb dX3_mend_3 (by decide) ?_
  refine va_calli (va_runV (As := [.int (nI a), .int (nI b), .int (nI 1)]) (rest := []) ⟨hx, hb, hml, hown, hts⟩ (c_X3_compare4 l G cy ad N K u x hN6 hK _ a b 1 h_a h_b (by decide) (by decide) (by decide)) (cwV 3 hts gX3_mend_X3_compare rfl rfl rfl (by decide +kernel) ⟨Nat.le_of_ble_eq_true rfl, Nat.le_of_ble_eq_true rfl⟩) (mP_V (r := (RX3, TX3, 3)) hN hE Q_4 rfl) rfl rfl hl.1 rfl (lv_room (Nat.le_of_ble_eq_true rfl)) dX3_mend_4 ⟨Nat.le_of_ble_eq_true rfl, Nat.le_of_ble_eq_true rfl⟩) hE.2.2.2 (fun q _ h => mE_A hE q h) (mE_A hE) (fun r uq tq H locs ht hvm hw hB hz1 hk1 hS => ?_)
  obtain ⟨rfl, rfl⟩ := hw
  have hE : mE G (mA ad (Si cy ad N K u x) s.heap.size) s.heap ad (Si cy ad N K u x) H locs := mE_call hE hB ht hS
  refine lv_ldc (v := nI 65536) hx hb hown (hts (.constant RX3 29 (nI 65536)) (by decide +kernel)) dX3_mend_7 ?_
  refine mv_irem (z := nI z) hx hb (by decide) (by rw [hz]; exact pk_rem (by omega) (by omega) (by omega)) dX3_mend_9 ?_
  refine lv_istore_n (lv' := [(3, .int (nI z)), (0, .ref (ad 4)), (1, .int (nI a)), (2, .int (nI b))]) hx hb dX3_mend_10 rfl hl (by decide) rfl (fun ls hl => ?_)
  refine lv_iconst (v := nI 0) hx hb dX3_mend_11 (by decide) ?_
  refine lv_istore (lv' := [(4, .int (nI 0)), (3, .int (nI z)), (0, .ref (ad 4)), (1, .int (nI a)), (2, .int (nI b))]) hx hb dX3_mend_12 hl (by decide) rfl (fun ls hl => ?_)
  refine lv_iconst (v := nI 0) hx hb dX3_mend_14 (by decide) ?_
  refine lv_istore (lv' := [(5, .int (nI 0)), (4, .int (nI 0)), (3, .int (nI z)), (0, .ref (ad 4)), (1, .int (nI a)), (2, .int (nI b))]) hx hb dX3_mend_15 hl (by decide) rfl (fun ls hl => ?_)
  refine mx_loop (β := Nat) (fun n9 (d : Nat) H locs ls => n9 = 16 - d ∧ (d ≤ 16) ∧ mE G (mA ad (Si cy ad N K u x) s.heap.size) s.heap ad (Si cy ad N K (jMend u a b z d) x) H locs ∧ lv_has ls 6 [(5, .int (nI d)), (4, .int (nI (jMen u a b z d))), (3, .int (nI z)), (0, .ref (ad 4)), (1, .int (nI a)), (2, .int (nI b))]) ?_ (16 - 0) (0) _ _ _ ⟨rfl, (by omega), hE, lv_sub hl [0, 1, 2, 3, 4, 5] rfl⟩
  intro n9 d H locs ls hI ih1
  obtain ⟨hn2, hle, hE, hl⟩ := hI
  have hzd : z / 2 ^ d < 2 ^ 31 := Nat.lt_of_le_of_lt (Nat.div_le_self _ _) (by omega)
  have hmn := jMen_le u a b z d
  have hE : mE G (mA ad (Si cy ad N K u x) s.heap.size) s.heap ad (Si cy ad N K (jMend u a b z d) x) H locs := hE
  have hl : lv_has ls 6 [(5, .int (nI d)), (4, .int (nI (jMen u a b z d))), (3, .int (nI z)), (0, .ref (ad 4)), (1, .int (nI a)), (2, .int (nI b))] := hl
  refine lv_iload hx hb dX3_mend_17 (lv_at hl 0 rfl) ?_
  refine lv_bipush (v := nI 16) hx hb dX3_mend_19 (by decide) ?_
  refine mv_ge (tgt := 62) hx hb (by omega) (by omega) dX3_mend_21 (by decide) (fun c3 => ?_) (fun c3 => ?_)
  · skip
    refine lv_iload hx hb dX3_mend_62 (lv_at hl 1 rfl) ?_
    exact mx_iret hx hb hr hE hlocks ⟨by rw [show d = 16 by omega], by rw [show d = 16 by omega]⟩ dX3_mend_64
  · skip
    refine lv_iload_n hx hb dX3_mend_24 rfl (lv_at hl 2 rfl) ?_
    refine lv_iload hx hb dX3_mend_25 (lv_at hl 0 rfl) ?_
    refine mv_ishr (z := nI (z / 2 ^ d)) hx hb (pk_shrN (by omega) _ _ (mu_l _ (by omega))) dX3_mend_27 ?_
    refine lv_iconst (v := nI 2) hx hb dX3_mend_28 (by decide) ?_
    refine mv_irem (z := nI ((z / 2 ^ d) % 2)) hx hb (by decide) (pk_rem (by omega) (by omega) (by omega)) dX3_mend_29 ?_
    refine lv_iconst (v := nI 1) hx hb dX3_mend_30 (by decide) ?_
    refine mv_ne (tgt := 56) hx hb (by omega) (by omega) dX3_mend_31 (by decide) (fun c4 => ?_) (fun c4 => ?_)
    · skip
      have e8 : jMend u a b z d = jMend u a b z (d + 1) := (if_neg c4 : jMend u a b z (d + 1) = _).symm
      have e9 : jMen u a b z d = jMen u a b z (d + 1) := (if_neg (fun h9 => c4 h9.1) : jMen u a b z (d + 1) = _).symm
      rw [e8] at hE
      rw [e9] at hl
      refine lv_iinc (v := nI (d + 1)) (lv' := [(5, .int (nI (d + 1))), (4, .int (nI (jMen u a b z (d + 1)))), (3, .int (nI z)), (0, .ref (ad 4)), (1, .int (nI a)), (2, .int (nI b))]) hx hb dX3_mend_56 hl (k := 0) rfl (nI_add _ _) (by decide) rfl (fun ls hl => ?_)
      refine lv_goto (tgt := 17) hx hb dX3_mend_59 (by decide) ?_
      exact ih1 (16 - (d + 1)) (d + 1) _ _ _ (by rw [hn2]; omega) ⟨rfl, (by omega), hE, lv_sub hl [0, 1, 2, 3, 4, 5] rfl⟩
    · skip
      refine lv_aload_n hx hb dX3_mend_34 rfl (lv_at hl 3 rfl) ?_
      refine lv_iload_n hx hb dX3_mend_35 rfl (lv_at hl 5 rfl) ?_
      refine lv_iload hx hb dX3_mend_36 (lv_at hl 0 rfl) ?_
      refine lv_aload_n hx hb dX3_mend_38 rfl (lv_at hl 3 rfl) ?_
      refine va_get (D := G) (ci := 3) (v := .ref (ad 5)) (C := RX3) (T := TX3) (N := 3) hx hb hts hiX3 hown hN.1 (mE_P1 hE Q_4) 0 rfl rfl 0 (by decide) (hts (.fieldLink RX3 9 "SealedCupboardsLaw$Sim" "things" "[[I") (by decide +kernel)) (fun _ h9 => h9) rfl dX3_mend_39 ?_
      refine lv_iload_n hx hb dX3_mend_42 rfl (lv_at hl 4 rfl) ?_
      refine mx_ralda hx hb hN hE Q_5 (j := a) rfl (by omega) (by omega) (Q_5at h_a) dX3_mend_43 ?_
      refine lv_iload hx hb dX3_mend_44 (lv_at hl 0 rfl) ?_
      refine mx_iald hx hb hN hE (Q_te h_a rfl) (j := d) rfl (by omega) (by decide) dX3_mend_46 ?_
      refine va_calli (va_runV (As := [.int (nI b), .int (nI d), .int ((jMend u a b z d) (20 + a) d)]) (rest := []) ⟨hx, hb, hml, hown, hts⟩ (c_X3_put l G cy ad N K (jMend u a b z d) x hN6 hK _ b d ((jMend u a b z d) (20 + a) d) h_b (by omega)) (cwV 3 hts gX3_mend_X3_put rfl rfl rfl (by decide +kernel) ⟨Nat.le_of_ble_eq_true rfl, Nat.le_of_ble_eq_true rfl⟩) (mP_V (r := (RX3, TX3, 3)) hN hE Q_4 rfl) rfl rfl hl.1 rfl (lv_room (Nat.le_of_ble_eq_true rfl)) dX3_mend_47 ⟨Nat.le_of_ble_eq_true rfl, Nat.le_of_ble_eq_true rfl⟩) hE.2.2.2 (fun q _ h => mE_A hE q h) (mE_A hE) (fun r uq tq H locs ht hvm hw hB hz1 hk1 hS => ?_)
      obtain ⟨rfl, rfl⟩ := hw
      have hE : mE G (mA ad (Si cy ad N K u x) s.heap.size) s.heap ad (Si cy ad N K (jPut (jMend u a b z d) b d ((jMend u a b z d) (20 + a) d)) x) H locs := mE_call hE hB ht hS
      refine lv_if_eq (tgt := 56) hx hb dX3_mend_50 (by decide) (fun c5 => ?_) (fun c5 => ?_)
      · skip
        have c5 := mb_0.mp c5
        have e8 : (jPut (jMend u a b z d) b d ((jMend u a b z d) (20 + a) d)) = jMend u a b z (d + 1) := (if_pos c4 : jMend u a b z (d + 1) = _).symm
        have e9 : jMen u a b z d = jMen u a b z (d + 1) := (if_neg (fun h9 => c5 h9.2) : jMen u a b z (d + 1) = _).symm
        rw [e8] at hE
        rw [e9] at hl
        refine lv_iinc (v := nI (d + 1)) (lv' := [(5, .int (nI (d + 1))), (4, .int (nI (jMen u a b z (d + 1)))), (3, .int (nI z)), (0, .ref (ad 4)), (1, .int (nI a)), (2, .int (nI b))]) hx hb dX3_mend_56 hl (k := 0) rfl (nI_add _ _) (by decide) rfl (fun ls hl => ?_)
        refine lv_goto (tgt := 17) hx hb dX3_mend_59 (by decide) ?_
        exact ih1 (16 - (d + 1)) (d + 1) _ _ _ (by rw [hn2]; omega) ⟨rfl, (by omega), hE, lv_sub hl [0, 1, 2, 3, 4, 5] rfl⟩
      · skip
        have c5 := Classical.not_not.mp (fun h9 => c5 (mb_0.mpr h9))
        refine lv_iinc (v := nI ((jMen u a b z d) + 1)) (lv' := [(4, .int (nI ((jMen u a b z d) + 1))), (5, .int (nI d)), (3, .int (nI z)), (0, .ref (ad 4)), (1, .int (nI a)), (2, .int (nI b))]) hx hb dX3_mend_53 hl (k := 1) rfl (nI_add _ _) (by decide) rfl (fun ls hl => ?_)
        have e8 : (jPut (jMend u a b z d) b d ((jMend u a b z d) (20 + a) d)) = jMend u a b z (d + 1) := (if_pos c4 : jMend u a b z (d + 1) = _).symm
        have e9 : jMen u a b z d + 1 = jMen u a b z (d + 1) := (if_pos ⟨c4, c5⟩ : jMen u a b z (d + 1) = _).symm
        rw [e8] at hE
        rw [e9] at hl
        refine lv_iinc (v := nI (d + 1)) (lv' := [(5, .int (nI (d + 1))), (4, .int (nI (jMen u a b z (d + 1)))), (3, .int (nI z)), (0, .ref (ad 4)), (1, .int (nI a)), (2, .int (nI b))]) hx hb dX3_mend_56 hl (k := 1) rfl (nI_add _ _) (by decide) rfl (fun ls hl => ?_)
        refine lv_goto (tgt := 17) hx hb dX3_mend_59 (by decide) ?_
        exact ih1 (16 - (d + 1)) (d + 1) _ _ _ (by rw [hn2]; omega) ⟨rfl, (by omega), hE, lv_sub hl [0, 1, 2, 3, 4, 5] rfl⟩

set_option maxHeartbeats 4000000 in
set_option maxRecDepth 100000 in
/-- swap in the law's own room -/
theorem c_X3_swap (l : Launch) (G : va_G) (cy : Nat → ClassId) (ad : Nat → Nat) (N K : Nat) (u : Nat → Nat → Int32) (x : mC) (hN6 : N ≤ 6) (hK : K ≤ 20) (sz : Nat) (i a b : Nat) (h_i : i < N) (ha : a < 16) (hb9 : b < 16) (x60 : x 60 = none) : mMi l yX3_swap wsX3_swap ({ frames := 12, cells := 1, slots := 32, locals := 300 }) G cy ad (Si cy ad N K u x) sz [.ref (ad 4), .int (nI i), .int (nI a), .int (nI b)] 1 32 (fun (r : Int32) t => r = nI (mApart (mS (u (20 + i))) (mS ((jSwap u i a b) (20 + i))) 31) ∧ t = (ad, Si cy ad N K (jSwap u i a b) x)) := by
  refine Met.ofW (cc := cX3_swap) (maxL := 8) (ret := (some .int)) (by decide) rfl ?_
  intro p e s m args below meth c s₁ B hml hv
  obtain ⟨rfl, hv⟩ := hv
  have hsz := hv.1
  subst hsz
  have hN := hv.2.2
  have hE := mP_E hv
  have hx := B.exec
  have hb := B.bytes
  have hr := B.returns
  have hts := atoms_spec (ws := wsX3_swap) B.pre
  have hown : s.vm.findClass RX3 = some m.cls := findClass_of_methodNamed B.named
  have hlocks := B.notSynchronized
  have hiX3 : ∀ w ∈ wsX30, w ∈ wsX3_swap := by decide +kernel
  have hl := lv_entry ([.ref (ad 4), .int (nI i), .int (nI a), .int (nI b)]) (n := 8) (Nat.le_of_ble_eq_true rfl)
  rw [lg_entry_eq]
  generalize (lg_sl ([.ref (ad 4), .int (nI i), .int (nI a), .int (nI b)]) ++ List.replicate (8 - (lg_sl ([.ref (ad 4), .int (nI i), .int (nI a), .int (nI b)])).length) Slot.unset).toArray = ls at hl ⊢
  have hl : lv_has ls 8 [(0, .ref (ad 4)), (1, .int (nI i)), (2, .int (nI a)), (3, .int (nI b))] := hl
  have h60 : ¬ jIs N K 60 := by unfold jIs; omega
  refine lv_bipush (v := nI 32) hx hb dX3_swap_0 (by decide) ?_
  refine mx_newi hx hb (hts (.arrayClass .int) (by decide +kernel)) hN hE 60 ((Q_r h60).trans x60) (by decide) rfl (by decide) (Nat.le_of_ble_eq_true rfl) (Nat.le_of_ble_eq_true rfl) dX3_swap_2 (fun ad1 H hj1 hE => ?_)
  have hj2 : ∀ j, jIs N K j → ad1 j = ad j := fun j hj => hj1 j (fun h => h60 (h ▸ hj))
  have e4 : ad1 4 = ad 4 := hj1 4 (by decide)
  generalize hargs : ([.ref (ad 4), .int (nI i), .int (nI a), .int (nI b)] : List Value).toArray = args at hts ⊢
  rw [← e4] at hl
  have hE : mE G (mA ad (Si cy ad N K u x) s.heap.size) s.heap ad1 (Si cy ad1 N K u (mU x 60 (mI cy 32 (fun _ => 0)))) H [] := by rw [Q_ux h60, Q_ad (x := mU x 60 (mI cy 32 (fun _ => 0))) hj2] at hE; exact hE
  refine lv_astore (lv' := [(4, .ref (ad1 60)), (0, .ref (ad1 4)), (1, .int (nI i)), (2, .int (nI a)), (3, .int (nI b))]) hx hb dX3_swap_4 hl (by decide) rfl (fun ls hl => ?_)
  refine lv_iconst (v := nI 1) hx hb dX3_swap_6 (by decide) ?_
  refine lv_istore (lv' := [(5, .int (nI 1)), (4, .ref (ad1 60)), (0, .ref (ad1 4)), (1, .int (nI i)), (2, .int (nI a)), (3, .int (nI b))]) hx hb dX3_swap_7 hl (by decide) rfl (fun ls hl => ?_)
  refine mx_loop (β := Nat × (Nat → Int32)) (fun n9 (bb9 : Nat × (Nat → Int32)) H locs ls => (fun (p : Nat) (g : Nat → Int32) => n9 = 32 - p ∧ (1 ≤ p ∧ p ≤ 32 ∧ ∀ q, 1 ≤ q → q < p → g q = mS (u (20 + i)) q) ∧ mE G (mA ad (Si cy ad N K u x) s.heap.size) s.heap ad1 (Si cy ad1 N K u (mU x 60 (mI cy 32 g))) H locs ∧ lv_has ls 8 [(5, .int (nI p)), (4, .ref (ad1 60)), (0, .ref (ad1 4)), (1, .int (nI i)), (2, .int (nI a)), (3, .int (nI b))]) (bb9.1) (bb9.2)) ?_ (32 - 1) (1, (fun _ => 0)) _ _ _ ⟨rfl, ⟨by omega, by omega, fun q h1 h2 => by omega⟩, hE, lv_sub hl [0, 1, 2, 3, 4, 5] rfl⟩
  intro n9 bb9 H locs ls hI ih1
  obtain ⟨p, g⟩ := bb9
  obtain ⟨hn2, ⟨hp1, hp2, hg⟩, hE, hl⟩ := hI
  have hE : mE G (mA ad (Si cy ad N K u x) s.heap.size) s.heap ad1 (Si cy ad1 N K u (mU x 60 (mI cy 32 g))) H locs := hE
  have hl : lv_has ls 8 [(5, .int (nI p)), (4, .ref (ad1 60)), (0, .ref (ad1 4)), (1, .int (nI i)), (2, .int (nI a)), (3, .int (nI b))] := hl
  refine lv_iload hx hb dX3_swap_9 (lv_at hl 0 rfl) ?_
  refine lv_bipush (v := nI 32) hx hb dX3_swap_11 (by decide) ?_
  refine mv_ge (tgt := 38) hx hb (by omega) (by omega) dX3_swap_13 (by decide) (fun c3 => ?_) (fun c3 => ?_)
  · skip
    refine lv_aload_n hx hb dX3_swap_38 rfl (lv_at hl 2 rfl) ?_
    refine va_get (D := G) (ci := 3) (v := .ref (ad1 5)) (C := RX3) (T := TX3) (N := 3) hx hb hts hiX3 hown hN.1 (mE_P1 hE Q_4) 0 rfl rfl 0 (by decide) (hts (.fieldLink RX3 9 "SealedCupboardsLaw$Sim" "things" "[[I") (by decide +kernel)) (fun _ h9 => h9) rfl dX3_swap_39 ?_
    refine lv_iload_n hx hb dX3_swap_42 rfl (lv_at hl 3 rfl) ?_
    refine mx_ralda hx hb hN hE Q_5 (j := i) rfl (by omega) (by omega) (Q_5at h_i) dX3_swap_43 ?_
    refine lv_iload_n hx hb dX3_swap_44 rfl (lv_at hl 4 rfl) ?_
    refine mx_iald hx hb hN hE (Q_te h_i rfl) (j := a) rfl (by omega) (by decide) dX3_swap_45 ?_
    refine lv_istore (lv' := [(5, .int (u (20 + i) a)), (4, .ref (ad1 60)), (0, .ref (ad1 4)), (1, .int (nI i)), (2, .int (nI a)), (3, .int (nI b))]) hx hb dX3_swap_46 hl (by decide) rfl (fun ls hl => ?_)
    refine lv_aload_n hx hb dX3_swap_48 rfl (lv_at hl 2 rfl) ?_
    refine lv_iload_n hx hb dX3_swap_49 rfl (lv_at hl 3 rfl) ?_
    refine lv_iload_n hx hb dX3_swap_50 rfl (lv_at hl 4 rfl) ?_
    refine lv_aload_n hx hb dX3_swap_51 rfl (lv_at hl 2 rfl) ?_
    refine va_get (D := G) (ci := 3) (v := .ref (ad1 5)) (C := RX3) (T := TX3) (N := 3) hx hb hts hiX3 hown hN.1 (mE_P1 hE Q_4) 0 rfl rfl 0 (by decide) (hts (.fieldLink RX3 9 "SealedCupboardsLaw$Sim" "things" "[[I") (by decide +kernel)) (fun _ h9 => h9) rfl dX3_swap_52 ?_
    refine lv_iload_n hx hb dX3_swap_55 rfl (lv_at hl 3 rfl) ?_
    refine mx_ralda hx hb hN hE Q_5 (j := i) rfl (by omega) (by omega) (Q_5at h_i) dX3_swap_56 ?_
    refine lv_iload_n hx hb dX3_swap_57 rfl (lv_at hl 5 rfl) ?_
    refine mx_iald hx hb hN hE (Q_te h_i rfl) (j := b) rfl (by omega) (by decide) dX3_swap_58 ?_
    refine va_calli (va_runV (As := [.int (nI i), .int (nI a), .int (u (20 + i) b)]) (rest := []) ⟨hx, hb, hml, hown, hts⟩ (c_X3_put l G cy ad1 N K u (mU x 60 (mI cy 32 g)) hN6 hK _ i a (u (20 + i) b) h_i (by omega)) (cwV 3 hts gX3_swap_X3_put rfl rfl rfl (by decide +kernel) ⟨Nat.le_of_ble_eq_true rfl, Nat.le_of_ble_eq_true rfl⟩) (mP_V (r := (RX3, TX3, 3)) hN hE Q_4 rfl) rfl rfl hl.1 rfl (lv_room (Nat.le_of_ble_eq_true rfl)) dX3_swap_59 ⟨Nat.le_of_ble_eq_true rfl, Nat.le_of_ble_eq_true rfl⟩) hE.2.2.2 (fun q _ h => mE_A hE q h) (mE_A hE) (fun r uq tq H locs ht hvm hw hB hz1 hk1 hS => ?_)
    obtain ⟨rfl, rfl⟩ := hw
    have hE : mE G (mA ad (Si cy ad N K u x) s.heap.size) s.heap ad1 (Si cy ad1 N K (jPut u i a (u (20 + i) b)) (mU x 60 (mI cy 32 g))) H locs := mE_call hE hB ht hS
    refine lv_pop hx hb dX3_swap_62 rfl ?_
    refine lv_aload_n hx hb dX3_swap_63 rfl (lv_at hl 2 rfl) ?_
    refine lv_iload_n hx hb dX3_swap_64 rfl (lv_at hl 3 rfl) ?_
    refine lv_iload_n hx hb dX3_swap_65 rfl (lv_at hl 5 rfl) ?_
    refine lv_iload hx hb dX3_swap_66 (lv_at hl 0 rfl) ?_
    refine va_calli (va_runV (As := [.int (nI i), .int (nI b), .int (u (20 + i) a)]) (rest := []) ⟨hx, hb, hml, hown, hts⟩ (c_X3_put l G cy ad1 N K (jPut u i a (u (20 + i) b)) (mU x 60 (mI cy 32 g)) hN6 hK _ i b (u (20 + i) a) h_i (by omega)) (cwV 3 hts gX3_swap_X3_put rfl rfl rfl (by decide +kernel) ⟨Nat.le_of_ble_eq_true rfl, Nat.le_of_ble_eq_true rfl⟩) (mP_V (r := (RX3, TX3, 3)) hN hE Q_4 rfl) rfl rfl hl.1 rfl (lv_room (Nat.le_of_ble_eq_true rfl)) dX3_swap_68 ⟨Nat.le_of_ble_eq_true rfl, Nat.le_of_ble_eq_true rfl⟩) hE.2.2.2 (fun q _ h => mE_A hE q h) (mE_A hE) (fun r uq tq H locs ht hvm hw hB hz1 hk1 hS => ?_)
    obtain ⟨rfl, rfl⟩ := hw
    have hE : mE G (mA ad (Si cy ad N K u x) s.heap.size) s.heap ad1 (Si cy ad1 N K (jPut (jPut u i a (u (20 + i) b)) i b (u (20 + i) a)) (mU x 60 (mI cy 32 g))) H locs := mE_call hE hB ht hS
    refine lv_pop hx hb dX3_swap_71 rfl ?_
    have hg9 : ∀ q, 1 ≤ q → q < 32 → g q = mS (u (20 + i)) q := fun q h1 h2 => hg q h1 (by omega)
    have hE : mE G (mA ad (Si cy ad N K u x) s.heap.size) s.heap ad1 (Si cy ad1 N K (jSwap u i a b) (mU x 60 (mI cy 32 g))) H locs := hE
    refine lv_iconst (v := nI 0) hx hb dX3_swap_72 (by decide) ?_
    refine lv_istore (lv' := [(6, .int (nI 0)), (5, .int (u (20 + i) a)), (4, .ref (ad1 60)), (0, .ref (ad1 4)), (1, .int (nI i)), (2, .int (nI a)), (3, .int (nI b))]) hx hb dX3_swap_73 hl (by decide) rfl (fun ls hl => ?_)
    refine lv_iconst (v := nI 1) hx hb dX3_swap_75 (by decide) ?_
    refine lv_istore (lv' := [(7, .int (nI 1)), (6, .int (nI 0)), (5, .int (u (20 + i) a)), (4, .ref (ad1 60)), (0, .ref (ad1 4)), (1, .int (nI i)), (2, .int (nI a)), (3, .int (nI b))]) hx hb dX3_swap_76 hl (by decide) rfl (fun ls hl => ?_)
    refine mx_loop (β := Nat) (fun n9 (q : Nat) H locs ls => n9 = 31 - q ∧ (q ≤ 31) ∧ mE G (mA ad (Si cy ad N K u x) s.heap.size) s.heap ad1 (Si cy ad1 N K (jSwap u i a b) (mU x 60 (mI cy 32 g))) H locs ∧ lv_has ls 8 [(7, .int (nI (q + 1))), (6, .int (nI (mApart (mS (u (20 + i))) (mS ((jSwap u i a b) (20 + i))) q))), (4, .ref (ad1 60)), (0, .ref (ad1 4)), (1, .int (nI i)), (2, .int (nI a)), (3, .int (nI b))]) ?_ (31 - 0) (0) _ _ _ ⟨rfl, (by omega), hE, lv_sub hl [0, 1, 3, 4, 5, 6, 7] rfl⟩
    intro n9 q H locs ls hI ih4
    obtain ⟨hn5, hle, hE, hl⟩ := hI
    have hap := mApart_le (mS (u (20 + i))) (mS ((jSwap u i a b) (20 + i))) q
    have hE : mE G (mA ad (Si cy ad N K u x) s.heap.size) s.heap ad1 (Si cy ad1 N K (jSwap u i a b) (mU x 60 (mI cy 32 g))) H locs := hE
    have hl : lv_has ls 8 [(7, .int (nI (q + 1))), (6, .int (nI (mApart (mS (u (20 + i))) (mS ((jSwap u i a b) (20 + i))) q))), (4, .ref (ad1 60)), (0, .ref (ad1 4)), (1, .int (nI i)), (2, .int (nI a)), (3, .int (nI b))] := hl
    refine lv_iload hx hb dX3_swap_78 (lv_at hl 0 rfl) ?_
    refine lv_bipush (v := nI 32) hx hb dX3_swap_80 (by decide) ?_
    refine mv_ge (tgt := 120) hx hb (by omega) (by omega) dX3_swap_82 (by decide) (fun c6 => ?_) (fun c6 => ?_)
    · skip
      refine lv_iload hx hb dX3_swap_120 (lv_at hl 1 rfl) ?_
      have hE : mE G (mA ad (Si cy ad N K u x) s.heap.size) s.heap ad1 (Si cy ad1 N K (jSwap u i a b) x) H locs := mE_drop hE (fun j e hj => Q_drop h60 x60 hj)
      have hE : mE G (mA ad (Si cy ad N K u x) s.heap.size) s.heap ad (Si cy ad N K (jSwap u i a b) x) H locs := by rw [Q_ad (u := jSwap u i a b) hj2]; exact mE_adr hE (fun j hj => (hj1 j (fun h => hj (by rw [h]; exact (Q_r h60).trans x60))).symm)
      exact mx_iret hx hb hr hE hlocks ⟨by rw [show q = 31 by omega], rfl⟩ dX3_swap_122
    · skip
      refine lv_iload hx hb dX3_swap_85 (lv_at hl 1 rfl) ?_
      refine lv_aload hx hb dX3_swap_87 (lv_at hl 2 rfl) ?_
      refine lv_iload hx hb dX3_swap_89 (lv_at hl 0 rfl) ?_
      refine mx_iald hx hb hN hE ((Q_r h60).trans (mU_s _ _ _)) (j := q + 1) rfl (by omega) (by decide) dX3_swap_91 ?_
      refine lv_aload_n hx hb dX3_swap_92 rfl (lv_at hl 3 rfl) ?_
      refine va_get (D := G) (ci := 3) (v := .ref (ad1 5)) (C := RX3) (T := TX3) (N := 3) hx hb hts hiX3 hown hN.1 (mE_P1 hE Q_4) 0 rfl rfl 0 (by decide) (hts (.fieldLink RX3 9 "SealedCupboardsLaw$Sim" "things" "[[I") (by decide +kernel)) (fun _ h9 => h9) rfl dX3_swap_93 ?_
      refine lv_iload_n hx hb dX3_swap_96 rfl (lv_at hl 4 rfl) ?_
      refine mx_ralda hx hb hN hE Q_5 (j := i) rfl (by omega) (by omega) (Q_5at h_i) dX3_swap_97 ?_
      refine lv_iload hx hb dX3_swap_98 (lv_at hl 0 rfl) ?_
      refine va_calli (va_runS (As := [.ref (ad1 (20 + i)), .int (nI (q + 1))]) (rest := [.int (g (q + 1)), .int (nI (mApart (mS (u (20 + i))) (mS ((jSwap u i a b) (20 + i))) q))]) ⟨hx, hb, hml, hown, hts⟩ (c_X3_sum l G cy ad1 (Si cy ad1 N K (jSwap u i a b) (mU x 60 (mI cy 32 g))) _ (20 + i) (q + 1) ((jSwap u i a b) (20 + i)) (Q_te h_i rfl) (by omega) (by omega)) (va_cwS 2 hts gX3_swap_X3_sum rfl rfl rfl (by decide +kernel) ⟨Nat.le_of_ble_eq_true rfl, Nat.le_of_ble_eq_true rfl⟩) (mP_S hN hE) rfl rfl hl.1 rfl (lv_room (Nat.le_of_ble_eq_true rfl)) dX3_swap_100 ⟨Nat.le_of_ble_eq_true rfl, Nat.le_of_ble_eq_true rfl⟩) hE.2.2.2 (fun q _ h => mE_A hE q h) (mE_A hE) (fun r uq tq H locs ht hvm hw hB hz1 hk1 hS => ?_)
      obtain ⟨rfl, rfl⟩ := hw
      have hE : mE G (mA ad (Si cy ad N K u x) s.heap.size) s.heap ad1 (Si cy ad1 N K (jSwap u i a b) (mU x 60 (mI cy 32 g))) H locs := mE_call hE hB ht hS
      refine lv_icmp_eq (tgt := 110) hx hb dX3_swap_103 (by decide) (fun c7 => ?_) (fun c7 => ?_)
      · skip
        refine lv_iconst (v := nI 0) hx hb dX3_swap_110 (by decide) ?_
        refine mv_iadd (z := nI ((mApart (mS (u (20 + i))) (mS ((jSwap u i a b) (20 + i))) q) + 0)) hx hb (nI_add _ _) dX3_swap_111 ?_
        refine lv_istore (lv' := [(6, .int (nI ((mApart (mS (u (20 + i))) (mS ((jSwap u i a b) (20 + i))) q) + 0))), (7, .int (nI (q + 1))), (4, .ref (ad1 60)), (0, .ref (ad1 4)), (1, .int (nI i)), (2, .int (nI a)), (3, .int (nI b))]) hx hb dX3_swap_112 hl (by decide) rfl (fun ls hl => ?_)
        have e9 : (mApart (mS (u (20 + i))) (mS ((jSwap u i a b) (20 + i))) q) + 0 = mApart (mS (u (20 + i))) (mS ((jSwap u i a b) (20 + i))) (q + 1) := by show _ = mApart (mS (u (20 + i))) (mS ((jSwap u i a b) (20 + i))) q + (if mS (u (20 + i)) (q + 1) = mS ((jSwap u i a b) (20 + i)) (q + 1) then 0 else 1); rw [if_pos ((hg9 _ (by omega) (by omega)).symm.trans c7)]
        rw [e9] at hl
        refine lv_iinc (v := nI ((q + 1) + 1)) (lv' := [(7, .int (nI ((q + 1) + 1))), (6, .int (nI (mApart (mS (u (20 + i))) (mS ((jSwap u i a b) (20 + i))) (q + 1)))), (4, .ref (ad1 60)), (0, .ref (ad1 4)), (1, .int (nI i)), (2, .int (nI a)), (3, .int (nI b))]) hx hb dX3_swap_114 hl (k := 1) rfl (nI_add _ _) (by decide) rfl (fun ls hl => ?_)
        refine lv_goto (tgt := 78) hx hb dX3_swap_117 (by decide) ?_
        exact ih4 (31 - (q + 1)) (q + 1) _ _ _ (by rw [hn5]; omega) ⟨rfl, (by omega), hE, lv_sub hl [0, 1, 2, 3, 4, 5, 6] rfl⟩
      · skip
        refine lv_iconst (v := nI 1) hx hb dX3_swap_106 (by decide) ?_
        refine lv_goto (tgt := 111) hx hb dX3_swap_107 (by decide) ?_
        refine mv_iadd (z := nI ((mApart (mS (u (20 + i))) (mS ((jSwap u i a b) (20 + i))) q) + 1)) hx hb (nI_add _ _) dX3_swap_111 ?_
        refine lv_istore (lv' := [(6, .int (nI ((mApart (mS (u (20 + i))) (mS ((jSwap u i a b) (20 + i))) q) + 1))), (7, .int (nI (q + 1))), (4, .ref (ad1 60)), (0, .ref (ad1 4)), (1, .int (nI i)), (2, .int (nI a)), (3, .int (nI b))]) hx hb dX3_swap_112 hl (by decide) rfl (fun ls hl => ?_)
        have e9 : (mApart (mS (u (20 + i))) (mS ((jSwap u i a b) (20 + i))) q) + 1 = mApart (mS (u (20 + i))) (mS ((jSwap u i a b) (20 + i))) (q + 1) := by show _ = mApart (mS (u (20 + i))) (mS ((jSwap u i a b) (20 + i))) q + (if mS (u (20 + i)) (q + 1) = mS ((jSwap u i a b) (20 + i)) (q + 1) then 0 else 1); rw [if_neg (fun h9 => c7 ((hg9 _ (by omega) (by omega)).trans h9))]
        rw [e9] at hl
        refine lv_iinc (v := nI ((q + 1) + 1)) (lv' := [(7, .int (nI ((q + 1) + 1))), (6, .int (nI (mApart (mS (u (20 + i))) (mS ((jSwap u i a b) (20 + i))) (q + 1)))), (4, .ref (ad1 60)), (0, .ref (ad1 4)), (1, .int (nI i)), (2, .int (nI a)), (3, .int (nI b))]) hx hb dX3_swap_114 hl (k := 1) rfl (nI_add _ _) (by decide) rfl (fun ls hl => ?_)
        refine lv_goto (tgt := 78) hx hb dX3_swap_117 (by decide) ?_
        exact ih4 (31 - (q + 1)) (q + 1) _ _ _ (by rw [hn5]; omega) ⟨rfl, (by omega), hE, lv_sub hl [0, 1, 2, 3, 4, 5, 6] rfl⟩
  · skip
    refine lv_aload hx hb dX3_swap_16 (lv_at hl 1 rfl) ?_
    refine lv_iload hx hb dX3_swap_18 (lv_at hl 0 rfl) ?_
    refine lv_aload_n hx hb dX3_swap_20 rfl (lv_at hl 2 rfl) ?_
    refine va_get (D := G) (ci := 3) (v := .ref (ad1 5)) (C := RX3) (T := TX3) (N := 3) hx hb hts hiX3 hown hN.1 (mE_P1 hE Q_4) 0 rfl rfl 0 (by decide) (hts (.fieldLink RX3 9 "SealedCupboardsLaw$Sim" "things" "[[I") (by decide +kernel)) (fun _ h9 => h9) rfl dX3_swap_21 ?_
    refine lv_iload_n hx hb dX3_swap_24 rfl (lv_at hl 3 rfl) ?_
    refine mx_ralda hx hb hN hE Q_5 (j := i) rfl (by omega) (by omega) (Q_5at h_i) dX3_swap_25 ?_
    refine lv_iload hx hb dX3_swap_26 (lv_at hl 0 rfl) ?_
    refine va_calli (va_runS (As := [.ref (ad1 (20 + i)), .int (nI p)]) (rest := [.int (nI p), .ref (ad1 60)]) ⟨hx, hb, hml, hown, hts⟩ (c_X3_sum l G cy ad1 (Si cy ad1 N K u (mU x 60 (mI cy 32 g))) _ (20 + i) p (u (20 + i)) (Q_te h_i rfl) (by omega) (by omega)) (va_cwS 2 hts gX3_swap_X3_sum rfl rfl rfl (by decide +kernel) ⟨Nat.le_of_ble_eq_true rfl, Nat.le_of_ble_eq_true rfl⟩) (mP_S hN hE) rfl rfl hl.1 rfl (lv_room (Nat.le_of_ble_eq_true rfl)) dX3_swap_28 ⟨Nat.le_of_ble_eq_true rfl, Nat.le_of_ble_eq_true rfl⟩) hE.2.2.2 (fun q _ h => mE_A hE q h) (mE_A hE) (fun r uq tq H locs ht hvm hw hB hz1 hk1 hS => ?_)
    obtain ⟨rfl, rfl⟩ := hw
    have hE : mE G (mA ad (Si cy ad N K u x) s.heap.size) s.heap ad1 (Si cy ad1 N K u (mU x 60 (mI cy 32 g))) H locs := mE_call hE hB ht hS
    refine mx_iast hx hb hN hE ((Q_r h60).trans (mU_s _ _ _)) (j := p) rfl (by omega) (by decide) dX3_swap_31 (fun H locs hE => ?_)
    have hE : mE G (mA ad (Si cy ad N K u x) s.heap.size) s.heap ad1 (Si cy ad1 N K u (mU x 60 (mI cy 32 (upd (g) p (mS (u (20 + i)) p))))) H locs := by rw [Q_ux h60, jU_uu] at hE; exact hE
    refine lv_iinc (v := nI (p + 1)) (lv' := [(5, .int (nI (p + 1))), (4, .ref (ad1 60)), (0, .ref (ad1 4)), (1, .int (nI i)), (2, .int (nI a)), (3, .int (nI b))]) hx hb dX3_swap_32 hl (k := 0) rfl (nI_add _ _) (by decide) rfl (fun ls hl => ?_)
    refine lv_goto (tgt := 9) hx hb dX3_swap_35 (by decide) ?_
    exact ih1 (32 - (p + 1)) (p + 1, (upd (g) p (mS (u (20 + i)) p))) _ _ _ (by rw [hn2]; omega) ⟨rfl, ⟨by omega, by omega, fun q h1 h2 => if h9 : q = p then by (try dsimp only); rw [h9, upd_s] else by (try dsimp only); rw [upd_n _ _ h9]; exact hg q h1 (by omega)⟩, hE, lv_sub hl [0, 1, 2, 3, 4, 5] rfl⟩
