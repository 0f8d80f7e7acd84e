set_option maxHeartbeats 4000000 in
set_option maxRecDepth 100000 in
/-- Integer.bitCount, as it reckons -/
theorem c_J6_bitCount (l : Launch) (G : va_G) (cy : Nat → ClassId) (ad : Nat → Nat) (M : mC) (sz : Nat) (x : Int32) : mMi l yJ6_bitCount_0f7a4 wsJ6_bitCount_0f7a4 ({ frames := 7, cells := 0, slots := 0, locals := 100 }) G cy ad (M) sz [.int x] 0 0 (fun (r : Int32) u => r = mBc x ∧ u = (ad, M)) := by
  refine Met.ofW (cc := cJ6_bitCount_0f7a4) (maxL := 1) (ret := (some .int)) (by decide) rfl ?_
  intro p e s m args below meth c s₁ B hml hv
  obtain ⟨rfl, hv⟩ := hv
  have hsz := hv.1
  subst hsz
  have hN := hv.2.2
  have hE := mP_E hv
  have hx := B.exec
  have hb := B.bytes
  have hr := B.returns
  have hts := atoms_spec (ws := wsJ6_bitCount_0f7a4) B.pre
  have hown : s.vm.findClass RJ6 = some m.cls := findClass_of_methodNamed B.named
  have hlocks := B.notSynchronized
  have hl := lv_entry ([.int x]) (n := 1) (Nat.le_of_ble_eq_true rfl)
  rw [lg_entry_eq]
  generalize (lg_sl ([.int x]) ++ List.replicate (1 - (lg_sl ([.int x])).length) Slot.unset).toArray = ls at hl ⊢
  have hl : lv_has ls 1 [(0, .int x)] := hl
  refine lv_iload_n hx hb dJ6_bitCount_0f7a4_0 rfl (lv_at hl 0 rfl) ?_
  refine lv_iload_n hx hb dJ6_bitCount_0f7a4_1 rfl (lv_at hl 0 rfl) ?_
  refine lv_iconst (v := nI 1) hx hb dJ6_bitCount_0f7a4_2 (by decide) ?_
  refine lv_iushr (v := mUs x (nI 1)) hx hb dJ6_bitCount_0f7a4_3 rfl ?_
  refine lv_ldcw (v := 1431655765) hx hb hown (hts (.constant RJ6 265 1431655765) (by decide +kernel)) dJ6_bitCount_0f7a4_4 ?_
  refine mv_iand (z := (mUs x (nI 1)) &&& (1431655765 : Int32)) hx hb rfl dJ6_bitCount_0f7a4_7 ?_
  refine mv_isub (z := x - ((mUs x (nI 1)) &&& (1431655765 : Int32))) hx hb rfl dJ6_bitCount_0f7a4_8 ?_
  refine lv_istore_n (lv' := [(0, .int (x - ((mUs x (nI 1)) &&& (1431655765 : Int32))))]) hx hb dJ6_bitCount_0f7a4_9 rfl hl (by decide) rfl (fun ls hl => ?_)
  refine lv_iload_n hx hb dJ6_bitCount_0f7a4_10 rfl (lv_at hl 0 rfl) ?_
  refine lv_ldcw (v := 858993459) hx hb hown (hts (.constant RJ6 266 858993459) (by decide +kernel)) dJ6_bitCount_0f7a4_11 ?_
  refine mv_iand (z := (x - ((mUs x (nI 1)) &&& (1431655765 : Int32))) &&& (858993459 : Int32)) hx hb rfl dJ6_bitCount_0f7a4_14 ?_
  refine lv_iload_n hx hb dJ6_bitCount_0f7a4_15 rfl (lv_at hl 0 rfl) ?_
  refine lv_iconst (v := nI 2) hx hb dJ6_bitCount_0f7a4_16 (by decide) ?_
  refine lv_iushr (v := mUs (x - ((mUs x (nI 1)) &&& (1431655765 : Int32))) (nI 2)) hx hb dJ6_bitCount_0f7a4_17 rfl ?_
  refine lv_ldcw (v := 858993459) hx hb hown (hts (.constant RJ6 266 858993459) (by decide +kernel)) dJ6_bitCount_0f7a4_18 ?_
  refine mv_iand (z := (mUs (x - ((mUs x (nI 1)) &&& (1431655765 : Int32))) (nI 2)) &&& (858993459 : Int32)) hx hb rfl dJ6_bitCount_0f7a4_21 ?_
  refine mv_iadd (z := ((x - ((mUs x (nI 1)) &&& (1431655765 : Int32))) &&& (858993459 : Int32)) + ((mUs (x - ((mUs x (nI 1)) &&& (1431655765 : Int32))) (nI 2)) &&& (858993459 : Int32))) hx hb rfl dJ6_bitCount_0f7a4_22 ?_
  refine lv_istore_n (lv' := [(0, .int (((x - ((mUs x (nI 1)) &&& (1431655765 : Int32))) &&& (858993459 : Int32)) + ((mUs (x - ((mUs x (nI 1)) &&& (1431655765 : Int32))) (nI 2)) &&& (858993459 : Int32))))]) hx hb dJ6_bitCount_0f7a4_23 rfl hl (by decide) rfl (fun ls hl => ?_)
  refine lv_iload_n hx hb dJ6_bitCount_0f7a4_24 rfl (lv_at hl 0 rfl) ?_
  refine lv_iload_n hx hb dJ6_bitCount_0f7a4_25 rfl (lv_at hl 0 rfl) ?_
  refine lv_iconst (v := nI 4) hx hb dJ6_bitCount_0f7a4_26 (by decide) ?_
  refine lv_iushr (v := mUs (((x - ((mUs x (nI 1)) &&& (1431655765 : Int32))) &&& (858993459 : Int32)) + ((mUs (x - ((mUs x (nI 1)) &&& (1431655765 : Int32))) (nI 2)) &&& (858993459 : Int32))) (nI 4)) hx hb dJ6_bitCount_0f7a4_27 rfl ?_
  refine mv_iadd (z := (((x - ((mUs x (nI 1)) &&& (1431655765 : Int32))) &&& (858993459 : Int32)) + ((mUs (x - ((mUs x (nI 1)) &&& (1431655765 : Int32))) (nI 2)) &&& (858993459 : Int32))) + (mUs (((x - ((mUs x (nI 1)) &&& (1431655765 : Int32))) &&& (858993459 : Int32)) + ((mUs (x - ((mUs x (nI 1)) &&& (1431655765 : Int32))) (nI 2)) &&& (858993459 : Int32))) (nI 4))) hx hb rfl dJ6_bitCount_0f7a4_28 ?_
  refine lv_ldcw (v := 252645135) hx hb hown (hts (.constant RJ6 267 252645135) (by decide +kernel)) dJ6_bitCount_0f7a4_29 ?_
  refine mv_iand (z := ((((x - ((mUs x (nI 1)) &&& (1431655765 : Int32))) &&& (858993459 : Int32)) + ((mUs (x - ((mUs x (nI 1)) &&& (1431655765 : Int32))) (nI 2)) &&& (858993459 : Int32))) + (mUs (((x - ((mUs x (nI 1)) &&& (1431655765 : Int32))) &&& (858993459 : Int32)) + ((mUs (x - ((mUs x (nI 1)) &&& (1431655765 : Int32))) (nI 2)) &&& (858993459 : Int32))) (nI 4))) &&& (252645135 : Int32)) hx hb rfl dJ6_bitCount_0f7a4_32 ?_
  refine lv_istore_n (lv' := [(0, .int (((((x - ((mUs x (nI 1)) &&& (1431655765 : Int32))) &&& (858993459 : Int32)) + ((mUs (x - ((mUs x (nI 1)) &&& (1431655765 : Int32))) (nI 2)) &&& (858993459 : Int32))) + (mUs (((x - ((mUs x (nI 1)) &&& (1431655765 : Int32))) &&& (858993459 : Int32)) + ((mUs (x - ((mUs x (nI 1)) &&& (1431655765 : Int32))) (nI 2)) &&& (858993459 : Int32))) (nI 4))) &&& (252645135 : Int32)))]) hx hb dJ6_bitCount_0f7a4_33 rfl hl (by decide) rfl (fun ls hl => ?_)
  refine lv_iload_n hx hb dJ6_bitCount_0f7a4_34 rfl (lv_at hl 0 rfl) ?_
  refine lv_iload_n hx hb dJ6_bitCount_0f7a4_35 rfl (lv_at hl 0 rfl) ?_
  refine lv_bipush (v := nI 8) hx hb dJ6_bitCount_0f7a4_36 (by decide) ?_
  refine lv_iushr (v := mUs (((((x - ((mUs x (nI 1)) &&& (1431655765 : Int32))) &&& (858993459 : Int32)) + ((mUs (x - ((mUs x (nI 1)) &&& (1431655765 : Int32))) (nI 2)) &&& (858993459 : Int32))) + (mUs (((x - ((mUs x (nI 1)) &&& (1431655765 : Int32))) &&& (858993459 : Int32)) + ((mUs (x - ((mUs x (nI 1)) &&& (1431655765 : Int32))) (nI 2)) &&& (858993459 : Int32))) (nI 4))) &&& (252645135 : Int32)) (nI 8)) hx hb dJ6_bitCount_0f7a4_38 rfl ?_
  refine mv_iadd (z := (((((x - ((mUs x (nI 1)) &&& (1431655765 : Int32))) &&& (858993459 : Int32)) + ((mUs (x - ((mUs x (nI 1)) &&& (1431655765 : Int32))) (nI 2)) &&& (858993459 : Int32))) + (mUs (((x - ((mUs x (nI 1)) &&& (1431655765 : Int32))) &&& (858993459 : Int32)) + ((mUs (x - ((mUs x (nI 1)) &&& (1431655765 : Int32))) (nI 2)) &&& (858993459 : Int32))) (nI 4))) &&& (252645135 : Int32)) + (mUs (((((x - ((mUs x (nI 1)) &&& (1431655765 : Int32))) &&& (858993459 : Int32)) + ((mUs (x - ((mUs x (nI 1)) &&& (1431655765 : Int32))) (nI 2)) &&& (858993459 : Int32))) + (mUs (((x - ((mUs x (nI 1)) &&& (1431655765 : Int32))) &&& (858993459 : Int32)) + ((mUs (x - ((mUs x (nI 1)) &&& (1431655765 : Int32))) (nI 2)) &&& (858993459 : Int32))) (nI 4))) &&& (252645135 : Int32)) (nI 8))) hx hb rfl dJ6_bitCount_0f7a4_39 ?_
  refine lv_istore_n (lv' := [(0, .int ((((((x - ((mUs x (nI 1)) &&& (1431655765 : Int32))) &&& (858993459 : Int32)) + ((mUs (x - ((mUs x (nI 1)) &&& (1431655765 : Int32))) (nI 2)) &&& (858993459 : Int32))) + (mUs (((x - ((mUs x (nI 1)) &&& (1431655765 : Int32))) &&& (858993459 : Int32)) + ((mUs (x - ((mUs x (nI 1)) &&& (1431655765 : Int32))) (nI 2)) &&& (858993459 : Int32))) (nI 4))) &&& (252645135 : Int32)) + (mUs (((((x - ((mUs x (nI 1)) &&& (1431655765 : Int32))) &&& (858993459 : Int32)) + ((mUs (x - ((mUs x (nI 1)) &&& (1431655765 : Int32))) (nI 2)) &&& (858993459 : Int32))) + (mUs (((x - ((mUs x (nI 1)) &&& (1431655765 : Int32))) &&& (858993459 : Int32)) + ((mUs (x - ((mUs x (nI 1)) &&& (1431655765 : Int32))) (nI 2)) &&& (858993459 : Int32))) (nI 4))) &&& (252645135 : Int32)) (nI 8))))]) hx hb dJ6_bitCount_0f7a4_40 rfl hl (by decide) rfl (fun ls hl => ?_)
  refine lv_iload_n hx hb dJ6_bitCount_0f7a4_41 rfl (lv_at hl 0 rfl) ?_
  refine lv_iload_n hx hb dJ6_bitCount_0f7a4_42 rfl (lv_at hl 0 rfl) ?_
  refine lv_bipush (v := nI 16) hx hb dJ6_bitCount_0f7a4_43 (by decide) ?_
  refine lv_iushr (v := mUs ((((((x - ((mUs x (nI 1)) &&& (1431655765 : Int32))) &&& (858993459 : Int32)) + ((mUs (x - ((mUs x (nI 1)) &&& (1431655765 : Int32))) (nI 2)) &&& (858993459 : Int32))) + (mUs (((x - ((mUs x (nI 1)) &&& (1431655765 : Int32))) &&& (858993459 : Int32)) + ((mUs (x - ((mUs x (nI 1)) &&& (1431655765 : Int32))) (nI 2)) &&& (858993459 : Int32))) (nI 4))) &&& (252645135 : Int32)) + (mUs (((((x - ((mUs x (nI 1)) &&& (1431655765 : Int32))) &&& (858993459 : Int32)) + ((mUs (x - ((mUs x (nI 1)) &&& (1431655765 : Int32))) (nI 2)) &&& (858993459 : Int32))) + (mUs (((x - ((mUs x (nI 1)) &&& (1431655765 : Int32))) &&& (858993459 : Int32)) + ((mUs (x - ((mUs x (nI 1)) &&& (1431655765 : Int32))) (nI 2)) &&& (858993459 : Int32))) (nI 4))) &&& (252645135 : Int32)) (nI 8))) (nI 16)) hx hb dJ6_bitCount_0f7a4_45 rfl ?_
  refine mv_iadd (z := ((((((x - ((mUs x (nI 1)) &&& (1431655765 : Int32))) &&& (858993459 : Int32)) + ((mUs (x - ((mUs x (nI 1)) &&& (1431655765 : Int32))) (nI 2)) &&& (858993459 : Int32))) + (mUs (((x - ((mUs x (nI 1)) &&& (1431655765 : Int32))) &&& (858993459 : Int32)) + ((mUs (x - ((mUs x (nI 1)) &&& (1431655765 : Int32))) (nI 2)) &&& (858993459 : Int32))) (nI 4))) &&& (252645135 : Int32)) + (mUs (((((x - ((mUs x (nI 1)) &&& (1431655765 : Int32))) &&& (858993459 : Int32)) + ((mUs (x - ((mUs x (nI 1)) &&& (1431655765 : Int32))) (nI 2)) &&& (858993459 : Int32))) + (mUs (((x - ((mUs x (nI 1)) &&& (1431655765 : Int32))) &&& (858993459 : Int32)) + ((mUs (x - ((mUs x (nI 1)) &&& (1431655765 : Int32))) (nI 2)) &&& (858993459 : Int32))) (nI 4))) &&& (252645135 : Int32)) (nI 8))) + (mUs ((((((x - ((mUs x (nI 1)) &&& (1431655765 : Int32))) &&& (858993459 : Int32)) + ((mUs (x - ((mUs x (nI 1)) &&& (1431655765 : Int32))) (nI 2)) &&& (858993459 : Int32))) + (mUs (((x - ((mUs x (nI 1)) &&& (1431655765 : Int32))) &&& (858993459 : Int32)) + ((mUs (x - ((mUs x (nI 1)) &&& (1431655765 : Int32))) (nI 2)) &&& (858993459 : Int32))) (nI 4))) &&& (252645135 : Int32)) + (mUs (((((x - ((mUs x (nI 1)) &&& (1431655765 : Int32))) &&& (858993459 : Int32)) + ((mUs (x - ((mUs x (nI 1)) &&& (1431655765 : Int32))) (nI 2)) &&& (858993459 : Int32))) + (mUs (((x - ((mUs x (nI 1)) &&& (1431655765 : Int32))) &&& (858993459 : Int32)) + ((mUs (x - ((mUs x (nI 1)) &&& (1431655765 : Int32))) (nI 2)) &&& (858993459 : Int32))) (nI 4))) &&& (252645135 : Int32)) (nI 8))) (nI 16))) hx hb rfl dJ6_bitCount_0f7a4_46 ?_
  refine lv_istore_n (lv' := [(0, .int (((((((x - ((mUs x (nI 1)) &&& (1431655765 : Int32))) &&& (858993459 : Int32)) + ((mUs (x - ((mUs x (nI 1)) &&& (1431655765 : Int32))) (nI 2)) &&& (858993459 : Int32))) + (mUs (((x - ((mUs x (nI 1)) &&& (1431655765 : Int32))) &&& (858993459 : Int32)) + ((mUs (x - ((mUs x (nI 1)) &&& (1431655765 : Int32))) (nI 2)) &&& (858993459 : Int32))) (nI 4))) &&& (252645135 : Int32)) + (mUs (((((x - ((mUs x (nI 1)) &&& (1431655765 : Int32))) &&& (858993459 : Int32)) + ((mUs (x - ((mUs x (nI 1)) &&& (1431655765 : Int32))) (nI 2)) &&& (858993459 : Int32))) + (mUs (((x - ((mUs x (nI 1)) &&& (1431655765 : Int32))) &&& (858993459 : Int32)) + ((mUs (x - ((mUs x (nI 1)) &&& (1431655765 : Int32))) (nI 2)) &&& (858993459 : Int32))) (nI 4))) &&& (252645135 : Int32)) (nI 8))) + (mUs ((((((x - ((mUs x (nI 1)) &&& (1431655765 : Int32))) &&& (858993459 : Int32)) + ((mUs (x - ((mUs x (nI 1)) &&& (1431655765 : Int32))) (nI 2)) &&& (858993459 : Int32))) + (mUs (((x - ((mUs x (nI 1)) &&& (1431655765 : Int32))) &&& (858993459 : Int32)) + ((mUs (x - ((mUs x (nI 1)) &&& (1431655765 : Int32))) (nI 2)) &&& (858993459 : Int32))) (nI 4))) &&& (252645135 : Int32)) + (mUs (((((x - ((mUs x (nI 1)) &&& (1431655765 : Int32))) &&& (858993459 : Int32)) + ((mUs (x - ((mUs x (nI 1)) &&& (1431655765 : Int32))) (nI 2)) &&& (858993459 : Int32))) + (mUs (((x - ((mUs x (nI 1)) &&& (1431655765 : Int32))) &&& (858993459 : Int32)) + ((mUs (x - ((mUs x (nI 1)) &&& (1431655765 : Int32))) (nI 2)) &&& (858993459 : Int32))) (nI 4))) &&& (252645135 : Int32)) (nI 8))) (nI 16))))]) hx hb dJ6_bitCount_0f7a4_47 rfl hl (by decide) rfl (fun ls hl => ?_)
  refine lv_iload_n hx hb dJ6_bitCount_0f7a4_48 rfl (lv_at hl 0 rfl) ?_
  refine lv_bipush (v := nI 63) hx hb dJ6_bitCount_0f7a4_49 (by decide) ?_
  refine mv_iand (z := (((((((x - ((mUs x (nI 1)) &&& (1431655765 : Int32))) &&& (858993459 : Int32)) + ((mUs (x - ((mUs x (nI 1)) &&& (1431655765 : Int32))) (nI 2)) &&& (858993459 : Int32))) + (mUs (((x - ((mUs x (nI 1)) &&& (1431655765 : Int32))) &&& (858993459 : Int32)) + ((mUs (x - ((mUs x (nI 1)) &&& (1431655765 : Int32))) (nI 2)) &&& (858993459 : Int32))) (nI 4))) &&& (252645135 : Int32)) + (mUs (((((x - ((mUs x (nI 1)) &&& (1431655765 : Int32))) &&& (858993459 : Int32)) + ((mUs (x - ((mUs x (nI 1)) &&& (1431655765 : Int32))) (nI 2)) &&& (858993459 : Int32))) + (mUs (((x - ((mUs x (nI 1)) &&& (1431655765 : Int32))) &&& (858993459 : Int32)) + ((mUs (x - ((mUs x (nI 1)) &&& (1431655765 : Int32))) (nI 2)) &&& (858993459 : Int32))) (nI 4))) &&& (252645135 : Int32)) (nI 8))) + (mUs ((((((x - ((mUs x (nI 1)) &&& (1431655765 : Int32))) &&& (858993459 : Int32)) + ((mUs (x - ((mUs x (nI 1)) &&& (1431655765 : Int32))) (nI 2)) &&& (858993459 : Int32))) + (mUs (((x - ((mUs x (nI 1)) &&& (1431655765 : Int32))) &&& (858993459 : Int32)) + ((mUs (x - ((mUs x (nI 1)) &&& (1431655765 : Int32))) (nI 2)) &&& (858993459 : Int32))) (nI 4))) &&& (252645135 : Int32)) + (mUs (((((x - ((mUs x (nI 1)) &&& (1431655765 : Int32))) &&& (858993459 : Int32)) + ((mUs (x - ((mUs x (nI 1)) &&& (1431655765 : Int32))) (nI 2)) &&& (858993459 : Int32))) + (mUs (((x - ((mUs x (nI 1)) &&& (1431655765 : Int32))) &&& (858993459 : Int32)) + ((mUs (x - ((mUs x (nI 1)) &&& (1431655765 : Int32))) (nI 2)) &&& (858993459 : Int32))) (nI 4))) &&& (252645135 : Int32)) (nI 8))) (nI 16))) &&& (nI 63)) hx hb rfl dJ6_bitCount_0f7a4_51 ?_
  exact mx_iret hx hb hr hE hlocks ⟨rfl, rfl⟩ dJ6_bitCount_0f7a4_52

set_option maxHeartbeats 4000000 in
set_option maxRecDepth 100000 in
/-- put -/
theorem c_X2_put (l : Launch) (G : va_G) (cy : Nat → ClassId) (ad : Nat → Nat) (n k : Nat) (v : Nat → Nat → Int32) (o : mC) (hn : n ≤ 6) (hk : k ≤ 20) (sz : Nat) (i : Nat) (h_i : i < n) (d t9 : Nat) (hd : d < 16) (ht9 : t9 < 10000) : mMi l yX2_put wsX2_put ({ frames := 10, cells := 0, slots := 0, locals := 220 }) G cy ad (Sy cy ad n k v o) sz [.ref (ad 0), .int (nI i), .int (nI d), .int (nI t9)] 0 0 (fun (r : Int32) u => r = v (200 + i) d ∧ u = (ad, Sy cy ad n k (mLay v i d (nI t9)) o)) := by
  refine Met.ofW (cc := cX2_put) (maxL := 6) (ret := (some .int)) (by decide) rfl ?_
  intro p e s m args below meth c s₁ B hml hv
  obtain ⟨rfl, hv⟩ := hv
  have hsz := hv.1
  subst hsz
  have hN := hv.2.2
  have hE := mP_E hv
  have hx := B.exec
  have hb := B.bytes
  have hr := B.returns
  have hts := atoms_spec (ws := wsX2_put) B.pre
  have hown : s.vm.findClass RX2 = some m.cls := findClass_of_methodNamed B.named
  have hlocks := B.notSynchronized
  have hiX2 : ∀ w ∈ wsX20, w ∈ wsX2_put := by decide +kernel
  have hiX0 : ∀ w ∈ wsX00, w ∈ wsX2_put := by decide +kernel
  have hl := lv_entry ([.ref (ad 0), .int (nI i), .int (nI d), .int (nI t9)]) (n := 6) (Nat.le_of_ble_eq_true rfl)
  rw [lg_entry_eq]
  generalize (lg_sl ([.ref (ad 0), .int (nI i), .int (nI d), .int (nI t9)]) ++ List.replicate (6 - (lg_sl ([.ref (ad 0), .int (nI i), .int (nI d), .int (nI t9)])).length) Slot.unset).toArray = ls at hl ⊢
  have hl : lv_has ls 6 [(0, .ref (ad 0)), (1, .int (nI i)), (2, .int (nI d)), (3, .int (nI t9))] := hl
  refine lv_aload_n hx hb dX2_put_0 rfl (lv_at hl 0 rfl) ?_
  refine lv_iload_n hx hb dX2_put_1 rfl (lv_at hl 1 rfl) ?_
  refine va_callq (va_runV (As := [.int (nI i)]) (rest := []) ⟨hx, hb, hml, hown, hts⟩ (c_X2_findCupboard l G cy ad n k v o hn hk _ i h_i) (cwV 1 hts gX2_put_X2_findCupboard rfl rfl rfl (by decide +kernel) ⟨Nat.le_of_ble_eq_true rfl, Nat.le_of_ble_eq_true rfl⟩) (mP_V (r := (RX2, TX2, 5)) hN hE S_0 rfl) rfl rfl hl.1 rfl (lv_room (Nat.le_of_ble_eq_true rfl)) dX2_put_2 ⟨Nat.le_of_ble_eq_true rfl, Nat.le_of_ble_eq_true rfl⟩) hE.2.2.2 (fun q _ h => mE_A hE q h) (mE_A hE) (fun r uq tq H locs ht hvm hw hB hz1 hk1 hS => ?_)
  obtain ⟨rfl, rfl⟩ := hw
  have hE : mE G (mA ad (Sy cy ad n k v o) s.heap.size) s.heap ad (Sy cy ad n k v o) H locs := mE_call hE hB ht hS
  refine lv_astore (lv' := [(4, .ref (ad (100 + i))), (0, .ref (ad 0)), (1, .int (nI i)), (2, .int (nI d)), (3, .int (nI t9))]) hx hb dX2_put_5 hl (by decide) rfl (fun ls hl => ?_)
  refine lv_iload_n hx hb dX2_put_7 rfl (lv_at hl 3 rfl) ?_
  refine va_callv (va_runS (As := [.int (nI d)]) (rest := []) ⟨hx, hb, hml, hown, hts⟩ (c_X2_checkDrawer l G cy ad (Sy cy ad n k v o) _ d (by omega)) (va_cwS 1 hts gX2_put_X2_checkDrawer rfl rfl rfl (by decide +kernel) ⟨Nat.le_of_ble_eq_true rfl, Nat.le_of_ble_eq_true rfl⟩) (mP_S hN hE) rfl rfl hl.1 rfl (lv_room (Nat.le_of_ble_eq_true rfl)) dX2_put_8 ⟨Nat.le_of_ble_eq_true rfl, Nat.le_of_ble_eq_true rfl⟩) hE.2.2.2 (fun q _ h => mE_A hE q h) (mE_A hE) (fun uq tq H locs ht hvm hw hB hz1 hk1 hS => ?_)
  subst hw
  have hE : mE G (mA ad (Sy cy ad n k v o) s.heap.size) s.heap ad (Sy cy ad n k v o) H locs := mE_call hE hB ht hS
  refine lv_iload_n hx hb dX2_put_11 rfl (lv_at hl 4 rfl) ?_
  refine va_callv (va_runS (As := [.int (nI t9)]) (rest := []) ⟨hx, hb, hml, hown, hts⟩ (c_X2_checkThing l G cy ad (Sy cy ad n k v o) _ t9 (by omega)) (va_cwS 1 hts gX2_put_X2_checkThing rfl rfl rfl (by decide +kernel) ⟨Nat.le_of_ble_eq_true rfl, Nat.le_of_ble_eq_true rfl⟩) (mP_S hN hE) rfl rfl hl.1 rfl (lv_room (Nat.le_of_ble_eq_true rfl)) dX2_put_12 ⟨Nat.le_of_ble_eq_true rfl, Nat.le_of_ble_eq_true rfl⟩) hE.2.2.2 (fun q _ h => mE_A hE q h) (mE_A hE) (fun uq tq H locs ht hvm hw hB hz1 hk1 hS => ?_)
  subst hw
  have hE : mE G (mA ad (Sy cy ad n k v o) s.heap.size) s.heap ad (Sy cy ad n k v o) H locs := mE_call hE hB ht hS
  refine lv_aload hx hb dX2_put_15 (lv_at hl 0 rfl) ?_
  refine va_getN (D := G) (ci := 0) (v := .ref (ad (200 + i))) (C := RX0) (T := TX0) (N := 3) (host := RX2) hx hb hts hiX0 hown hN.1 (mE_P1 hE (S_ce hn h_i rfl)) 0 rfl rfl 0 (by decide) (va_Nw.use rfl (hN.2.1 (.fieldLinkNest RX2 48 RX0 "things" "[I" RX2) (by decide +kernel))) (fun _ h9 => h9) rfl dX2_put_17 ?_
  refine lv_iload_n hx hb dX2_put_20 rfl (lv_at hl 3 rfl) ?_
  refine mx_iald hx hb hN hE (S_te hn h_i rfl) (j := d) rfl (by omega) (by decide) dX2_put_21 ?_
  refine lv_istore (lv' := [(5, .int (v (200 + i) d)), (4, .ref (ad (100 + i))), (0, .ref (ad 0)), (1, .int (nI i)), (2, .int (nI d)), (3, .int (nI t9))]) hx hb dX2_put_22 hl (by decide) rfl (fun ls hl => ?_)
  refine lv_aload hx hb dX2_put_24 (lv_at hl 1 rfl) ?_
  refine lv_iload_n hx hb dX2_put_26 rfl (lv_at hl 4 rfl) ?_
  refine lv_iload_n hx hb dX2_put_27 rfl (lv_at hl 5 rfl) ?_
  refine va_callv (va_runVN (As := [.int (nI d), .int (nI t9)]) (rest := []) ⟨hx, hb, hml, hown, hts⟩ (c_X0_lay l G cy ad n k v o hn hk _ i d (nI t9) h_i (by omega)) ⟨va_cnB 2 hts gX2_put_X0_lay_n51 rfl rfl rfl (hN.2.1 (.methodLinkNest RX2 51 yX0_lay RX2) (by decide +kernel)) (hts (.initialized RX0) (by decide +kernel)) (by decide +kernel) ⟨Nat.le_of_ble_eq_true rfl, Nat.le_of_ble_eq_true rfl⟩, (hts (.instanceMethod yX0_lay) (by decide +kernel)), (hts (.selects RX0 yX0_lay yX0_lay) (by decide +kernel))⟩ (mP_V (r := (RX0, TX0, 3)) hN hE (S_ce hn h_i rfl) rfl) rfl rfl hl.1 rfl (lv_room (Nat.le_of_ble_eq_true rfl)) dX2_put_28 ⟨Nat.le_of_ble_eq_true rfl, Nat.le_of_ble_eq_true rfl⟩) hE.2.2.2 (fun q _ h => mE_A hE q h) (mE_A hE) (fun uq tq H locs ht hvm hw hB hz1 hk1 hS => ?_)
  subst hw
  have hE : mE G (mA ad (Sy cy ad n k v o) s.heap.size) s.heap ad (Sy cy ad n k (mLay v i d (nI t9)) o) H locs := mE_call hE hB ht hS
  refine lv_iload hx hb dX2_put_31 (lv_at hl 0 rfl) ?_
  exact mx_iret hx hb hr hE hlocks ⟨rfl, rfl⟩ dX2_put_33

set_option maxHeartbeats 4000000 in
set_option maxRecDepth 100000 in
/-- swap -/
theorem c_X2_swap (l : Launch) (G : va_G) (cy : Nat → ClassId) (ad : Nat → Nat) (n k : Nat) (v : Nat → Nat → Int32) (o : mC) (hn : n ≤ 6) (hk : k ≤ 20) (sz : Nat) (i : Nat) (h_i : i < n) (a b : Nat) (ha : a < 16) (hb9 : b < 16) : mMi l yX2_swap wsX2_swap ({ frames := 10, cells := 0, slots := 0, locals := 220 }) G cy ad (Sy cy ad n k v o) sz [.ref (ad 0), .int (nI i), .int (nI a), .int (nI b)] 0 0 (fun (r : Int32) u => r = nI (mApart (mSwap v i a b 3) (mSwap v i a b (300 + i)) 31) ∧ u = (ad, Sy cy ad n k (mSwap v i a b) o)) := by
  refine Met.ofW (cc := cX2_swap) (maxL := 6) (ret := (some .int)) (by decide) rfl ?_
  intro p e s m args below meth c s₁ B hml hv
  obtain ⟨rfl, hv⟩ := hv
  have hsz := hv.1
  subst hsz
  have hN := hv.2.2
  have hE := mP_E hv
  have hx := B.exec
  have hb := B.bytes
  have hr := B.returns
  have hts := atoms_spec (ws := wsX2_swap) B.pre
  have hown : s.vm.findClass RX2 = some m.cls := findClass_of_methodNamed B.named
  have hlocks := B.notSynchronized
  have hiX2 : ∀ w ∈ wsX20, w ∈ wsX2_swap := by decide +kernel
  have hiX0 : ∀ w ∈ wsX00, w ∈ wsX2_swap := by decide +kernel
  have hl := lv_entry ([.ref (ad 0), .int (nI i), .int (nI a), .int (nI b)]) (n := 6) (Nat.le_of_ble_eq_true rfl)
  rw [lg_entry_eq]
  generalize (lg_sl ([.ref (ad 0), .int (nI i), .int (nI a), .int (nI b)]) ++ List.replicate (6 - (lg_sl ([.ref (ad 0), .int (nI i), .int (nI a), .int (nI b)])).length) Slot.unset).toArray = ls at hl ⊢
  have hl : lv_has ls 6 [(0, .ref (ad 0)), (1, .int (nI i)), (2, .int (nI a)), (3, .int (nI b))] := hl
  refine lv_aload_n hx hb dX2_swap_0 rfl (lv_at hl 0 rfl) ?_
  refine lv_iload_n hx hb dX2_swap_1 rfl (lv_at hl 1 rfl) ?_
  refine va_callq (va_runV (As := [.int (nI i)]) (rest := []) ⟨hx, hb, hml, hown, hts⟩ (c_X2_findCupboard l G cy ad n k v o hn hk _ i h_i) (cwV 1 hts gX2_swap_X2_findCupboard rfl rfl rfl (by decide +kernel) ⟨Nat.le_of_ble_eq_true rfl, Nat.le_of_ble_eq_true rfl⟩) (mP_V (r := (RX2, TX2, 5)) hN hE S_0 rfl) rfl rfl hl.1 rfl (lv_room (Nat.le_of_ble_eq_true rfl)) dX2_swap_2 ⟨Nat.le_of_ble_eq_true rfl, Nat.le_of_ble_eq_true rfl⟩) hE.2.2.2 (fun q _ h => mE_A hE q h) (mE_A hE) (fun r uq tq H locs ht hvm hw hB hz1 hk1 hS => ?_)
  obtain ⟨rfl, rfl⟩ := hw
  have hE : mE G (mA ad (Sy cy ad n k v o) s.heap.size) s.heap ad (Sy cy ad n k v o) H locs := mE_call hE hB ht hS
  refine lv_astore (lv' := [(4, .ref (ad (100 + i))), (0, .ref (ad 0)), (1, .int (nI i)), (2, .int (nI a)), (3, .int (nI b))]) hx hb dX2_swap_5 hl (by decide) rfl (fun ls hl => ?_)
  refine lv_iload_n hx hb dX2_swap_7 rfl (lv_at hl 3 rfl) ?_
  refine va_callv (va_runS (As := [.int (nI a)]) (rest := []) ⟨hx, hb, hml, hown, hts⟩ (c_X2_checkDrawer l G cy ad (Sy cy ad n k v o) _ a (by omega)) (va_cwS 1 hts gX2_swap_X2_checkDrawer rfl rfl rfl (by decide +kernel) ⟨Nat.le_of_ble_eq_true rfl, Nat.le_of_ble_eq_true rfl⟩) (mP_S hN hE) rfl rfl hl.1 rfl (lv_room (Nat.le_of_ble_eq_true rfl)) dX2_swap_8 ⟨Nat.le_of_ble_eq_true rfl, Nat.le_of_ble_eq_true rfl⟩) hE.2.2.2 (fun q _ h => mE_A hE q h) (mE_A hE) (fun uq tq H locs ht hvm hw hB hz1 hk1 hS => ?_)
  subst hw
  have hE : mE G (mA ad (Sy cy ad n k v o) s.heap.size) s.heap ad (Sy cy ad n k v o) H locs := mE_call hE hB ht hS
  refine lv_iload_n hx hb dX2_swap_11 rfl (lv_at hl 4 rfl) ?_
  refine va_callv (va_runS (As := [.int (nI b)]) (rest := []) ⟨hx, hb, hml, hown, hts⟩ (c_X2_checkDrawer l G cy ad (Sy cy ad n k v o) _ b (by omega)) (va_cwS 1 hts gX2_swap_X2_checkDrawer rfl rfl rfl (by decide +kernel) ⟨Nat.le_of_ble_eq_true rfl, Nat.le_of_ble_eq_true rfl⟩) (mP_S hN hE) rfl rfl hl.1 rfl (lv_room (Nat.le_of_ble_eq_true rfl)) dX2_swap_12 ⟨Nat.le_of_ble_eq_true rfl, Nat.le_of_ble_eq_true rfl⟩) hE.2.2.2 (fun q _ h => mE_A hE q h) (mE_A hE) (fun uq tq H locs ht hvm hw hB hz1 hk1 hS => ?_)
  subst hw
  have hE : mE G (mA ad (Sy cy ad n k v o) s.heap.size) s.heap ad (Sy cy ad n k v o) H locs := mE_call hE hB ht hS
  refine lv_aload hx hb dX2_swap_15 (lv_at hl 0 rfl) ?_
  refine va_getN (D := G) (ci := 0) (v := .ref (ad (300 + i))) (C := RX0) (T := TX0) (N := 3) (host := RX2) hx hb hts hiX0 hown hN.1 (mE_P1 hE (S_ce hn h_i rfl)) 0 rfl rfl 1 (by decide) (va_Nw.use rfl (hN.2.1 (.fieldLinkNest RX2 55 RX0 "sums" "[I" RX2) (by decide +kernel))) (fun _ h9 => h9) rfl dX2_swap_17 ?_
  refine lv_iconst (v := nI 0) hx hb dX2_swap_20 (by decide) ?_
  refine lv_aload_n hx hb dX2_swap_21 rfl (lv_at hl 1 rfl) ?_
  refine va_get (D := G) (ci := 2) (v := .ref (ad 3)) (C := RX2) (T := TX2) (N := 5) hx hb hts hiX2 hown hN.1 (mE_P1 hE S_0) 0 rfl rfl 2 (by decide) (hts (.fieldLink RX2 21 "SealedCupboards" "spareSums" "[I") (by decide +kernel)) (fun _ h9 => h9) rfl dX2_swap_22 ?_
  refine lv_iconst (v := nI 0) hx hb dX2_swap_25 (by decide) ?_
  refine lv_bipush (v := nI 32) hx hb dX2_swap_26 (by decide) ?_
  refine mx_copy hx hb (hml.trans hl.1.symm) hown (hts (.methodLink RX2 58 arraycopyName) (by decide +kernel)) (hts (.native arraycopyName) (by decide +kernel)) (hts (.static arraycopyName) (by decide +kernel)) (hts (.initialized "java/lang/System") (by decide +kernel)) hN hE (S_se hn h_i rfl) (S_3e rfl) (n := 32) rfl (by decide) (by decide) (by decide) (Nat.le_of_ble_eq_true rfl) (Nat.le_of_ble_eq_true rfl) dX2_swap_28 (fun H locs hE => ?_)
  obtain ⟨kv1, hkv1⟩ : ∃ y99, y99 = va_up v 3 (va_cpy (v (300 + i)) (v 3) 0 0 32) := ⟨_, rfl⟩
  have hE : mE G (mA ad (Sy cy ad n k v o) s.heap.size) s.heap ad (Sy cy ad n k kv1 o) H locs := by rw [hkv1]; exact (S_up sy_3) ▸ hE
  have ke2 : kv1 (200 + i) = v (200 + i) := by rw [hkv1, va_up_n _ _ (by omega)]
  have ke3 : kv1 (300 + i) = v (300 + i) := by rw [hkv1, va_up_n _ _ (by omega)]
  have ke4 : kv1 3 = (va_cpy (v (300 + i)) (v 3) 0 0 32) := by rw [hkv1, va_up_s]
  refine lv_aload hx hb dX2_swap_31 (lv_at hl 0 rfl) ?_
  refine va_getN (D := G) (ci := 0) (v := .ref (ad (200 + i))) (C := RX0) (T := TX0) (N := 3) (host := RX2) hx hb hts hiX0 hown hN.1 (mE_P1 hE (S_ce hn h_i rfl)) 0 rfl rfl 0 (by decide) (va_Nw.use rfl (hN.2.1 (.fieldLinkNest RX2 48 RX0 "things" "[I" RX2) (by decide +kernel))) (fun _ h9 => h9) rfl dX2_swap_33 ?_
  refine lv_iload_n hx hb dX2_swap_36 rfl (lv_at hl 3 rfl) ?_
  refine mx_iald hx hb hN hE (S_te hn h_i ke2) (j := a) rfl (by omega) (by decide) dX2_swap_37 ?_
  refine lv_istore (lv' := [(5, .int (v (200 + i) a)), (4, .ref (ad (100 + i))), (0, .ref (ad 0)), (1, .int (nI i)), (2, .int (nI a)), (3, .int (nI b))]) hx hb dX2_swap_38 hl (by decide) rfl (fun ls hl => ?_)
  refine lv_aload hx hb dX2_swap_40 (lv_at hl 1 rfl) ?_
  refine lv_iload_n hx hb dX2_swap_42 rfl (lv_at hl 4 rfl) ?_
  refine lv_aload hx hb dX2_swap_43 (lv_at hl 1 rfl) ?_
  refine va_getN (D := G) (ci := 0) (v := .ref (ad (200 + i))) (C := RX0) (T := TX0) (N := 3) (host := RX2) hx hb hts hiX0 hown hN.1 (mE_P1 hE (S_ce hn h_i rfl)) 0 rfl rfl 0 (by decide) (va_Nw.use rfl (hN.2.1 (.fieldLinkNest RX2 48 RX0 "things" "[I" RX2) (by decide +kernel))) (fun _ h9 => h9) rfl dX2_swap_45 ?_
  refine lv_iload_n hx hb dX2_swap_48 rfl (lv_at hl 5 rfl) ?_
  refine mx_iald hx hb hN hE (S_te hn h_i ke2) (j := b) rfl (by omega) (by decide) dX2_swap_49 ?_
  refine va_callv (va_runVN (As := [.int (nI a), .int (v (200 + i) b)]) (rest := []) ⟨hx, hb, hml, hown, hts⟩ (c_X0_lay l G cy ad n k kv1 o hn hk _ i a (v (200 + i) b) h_i (by omega)) ⟨va_cnB 2 hts gX2_swap_X0_lay_n51 rfl rfl rfl (hN.2.1 (.methodLinkNest RX2 51 yX0_lay RX2) (by decide +kernel)) (hts (.initialized RX0) (by decide +kernel)) (by decide +kernel) ⟨Nat.le_of_ble_eq_true rfl, Nat.le_of_ble_eq_true rfl⟩, (hts (.instanceMethod yX0_lay) (by decide +kernel)), (hts (.selects RX0 yX0_lay yX0_lay) (by decide +kernel))⟩ (mP_V (r := (RX0, TX0, 3)) hN hE (S_ce hn h_i rfl) rfl) rfl rfl hl.1 rfl (lv_room (Nat.le_of_ble_eq_true rfl)) dX2_swap_50 ⟨Nat.le_of_ble_eq_true rfl, Nat.le_of_ble_eq_true rfl⟩) hE.2.2.2 (fun q _ h => mE_A hE q h) (mE_A hE) (fun uq tq H locs ht hvm hw hB hz1 hk1 hS => ?_)
  subst hw
  have hE : mE G (mA ad (Sy cy ad n k v o) s.heap.size) s.heap ad (Sy cy ad n k (mLay kv1 i a (v (200 + i) b)) o) H locs := mE_call hE hB ht hS
  refine lv_aload hx hb dX2_swap_53 (lv_at hl 1 rfl) ?_
  refine lv_iload_n hx hb dX2_swap_55 rfl (lv_at hl 5 rfl) ?_
  refine lv_iload hx hb dX2_swap_56 (lv_at hl 0 rfl) ?_
  refine va_callv (va_runVN (As := [.int (nI b), .int (v (200 + i) a)]) (rest := []) ⟨hx, hb, hml, hown, hts⟩ (c_X0_lay l G cy ad n k (mLay kv1 i a (v (200 + i) b)) o hn hk _ i b (v (200 + i) a) h_i (by omega)) ⟨va_cnB 2 hts gX2_swap_X0_lay_n51 rfl rfl rfl (hN.2.1 (.methodLinkNest RX2 51 yX0_lay RX2) (by decide +kernel)) (hts (.initialized RX0) (by decide +kernel)) (by decide +kernel) ⟨Nat.le_of_ble_eq_true rfl, Nat.le_of_ble_eq_true rfl⟩, (hts (.instanceMethod yX0_lay) (by decide +kernel)), (hts (.selects RX0 yX0_lay yX0_lay) (by decide +kernel))⟩ (mP_V (r := (RX0, TX0, 3)) hN hE (S_ce hn h_i rfl) rfl) rfl rfl hl.1 rfl (lv_room (Nat.le_of_ble_eq_true rfl)) dX2_swap_58 ⟨Nat.le_of_ble_eq_true rfl, Nat.le_of_ble_eq_true rfl⟩) hE.2.2.2 (fun q _ h => mE_A hE q h) (mE_A hE) (fun uq tq H locs ht hvm hw hB hz1 hk1 hS => ?_)
  subst hw
  have hE : mE G (mA ad (Sy cy ad n k v o) s.heap.size) s.heap ad (Sy cy ad n k (mLay (mLay kv1 i a (v (200 + i) b)) i b (v (200 + i) a)) o) H locs := mE_call hE hB ht hS
  refine lv_aload_n hx hb dX2_swap_61 rfl (lv_at hl 2 rfl) ?_
  refine va_get (D := G) (ci := 2) (v := .ref (ad 3)) (C := RX2) (T := TX2) (N := 5) hx hb hts hiX2 hown hN.1 (mE_P1 hE S_0) 0 rfl rfl 2 (by decide) (hts (.fieldLink RX2 21 "SealedCupboards" "spareSums" "[I") (by decide +kernel)) (fun _ h9 => h9) rfl dX2_swap_62 ?_
  refine lv_aload hx hb dX2_swap_65 (lv_at hl 1 rfl) ?_
  refine va_getN (D := G) (ci := 0) (v := .ref (ad (300 + i))) (C := RX0) (T := TX0) (N := 3) (host := RX2) hx hb hts hiX0 hown hN.1 (mE_P1 hE (S_ce hn h_i rfl)) 0 rfl rfl 1 (by decide) (va_Nw.use rfl (hN.2.1 (.fieldLinkNest RX2 55 RX0 "sums" "[I" RX2) (by decide +kernel))) (fun _ h9 => h9) rfl dX2_swap_67 ?_
  refine va_calli (va_runS (As := [.ref (ad 3), .ref (ad (300 + i))]) (rest := []) ⟨hx, hb, hml, hown, hts⟩ (c_X2_placesApart l G cy ad n k (mLay (mLay kv1 i a (v (200 + i) b)) i b (v (200 + i) a)) o hn hk _ 3 (300 + i) (fun g => sy_3) (fun g => sy_s hn h_i)) (va_cwS 2 hts gX2_swap_X2_placesApart rfl rfl rfl (by decide +kernel) ⟨Nat.le_of_ble_eq_true rfl, Nat.le_of_ble_eq_true rfl⟩) (mP_S hN hE) rfl rfl hl.1 rfl (lv_room (Nat.le_of_ble_eq_true rfl)) dX2_swap_70 ⟨Nat.le_of_ble_eq_true rfl, Nat.le_of_ble_eq_true rfl⟩) hE.2.2.2 (fun q _ h => mE_A hE q h) (mE_A hE) (fun r uq tq H locs ht hvm hw hB hz1 hk1 hS => ?_)
  obtain ⟨rfl, rfl⟩ := hw
  have hE : mE G (mA ad (Sy cy ad n k v o) s.heap.size) s.heap ad (Sy cy ad n k (mLay (mLay kv1 i a (v (200 + i) b)) i b (v (200 + i) a)) o) H locs := mE_call hE hB ht hS
  exact mx_iret hx hb hr hE hlocks ⟨by rw [hkv1]; rfl, by rw [hkv1]; rfl⟩ dX2_swap_73

set_option maxHeartbeats 4000000 in
set_option maxRecDepth 100000 in
/-- sum -/
theorem c_X2_sum (l : Launch) (G : va_G) (cy : Nat → ClassId) (ad : Nat → Nat) (n k : Nat) (v : Nat → Nat → Int32) (o : mC) (hn : n ≤ 6) (hk : k ≤ 20) (sz : Nat) (i : Nat) (h_i : i < n) (q : Nat) (hq1 : 1 ≤ q) (hq : q ≤ 31) : mMi l yX2_sum wsX2_sum ({ frames := 8, cells := 0, slots := 0, locals := 140 }) G cy ad (Sy cy ad n k v o) sz [.ref (ad 0), .int (nI i), .int (nI q)] 0 0 (fun (r : Int32) u => r = v (300 + i) q ∧ u = (ad, Sy cy ad n k v o)) := by
  refine Met.ofW (cc := cX2_sum) (maxL := 4) (ret := (some .int)) (by decide) rfl ?_
  intro p e s m args below meth c s₁ B hml hv
  obtain ⟨rfl, hv⟩ := hv
  have hsz := hv.1
  subst hsz
  have hN := hv.2.2
  have hE := mP_E hv
  have hx := B.exec
  have hb := B.bytes
  have hr := B.returns
  have hts := atoms_spec (ws := wsX2_sum) B.pre
  have hown : s.vm.findClass RX2 = some m.cls := findClass_of_methodNamed B.named
  have hlocks := B.notSynchronized
  have hiX2 : ∀ w ∈ wsX20, w ∈ wsX2_sum := by decide +kernel
  have hiX0 : ∀ w ∈ wsX00, w ∈ wsX2_sum := by decide +kernel
  have hl := lv_entry ([.ref (ad 0), .int (nI i), .int (nI q)]) (n := 4) (Nat.le_of_ble_eq_true rfl)
  rw [lg_entry_eq]
  generalize (lg_sl ([.ref (ad 0), .int (nI i), .int (nI q)]) ++ List.replicate (4 - (lg_sl ([.ref (ad 0), .int (nI i), .int (nI q)])).length) Slot.unset).toArray = ls at hl ⊢
  have hl : lv_has ls 4 [(0, .ref (ad 0)), (1, .int (nI i)), (2, .int (nI q))] := hl
  refine lv_aload_n hx hb dX2_sum_0 rfl (lv_at hl 0 rfl) ?_
  refine lv_iload_n hx hb dX2_sum_1 rfl (lv_at hl 1 rfl) ?_
  refine va_callq (va_runV (As := [.int (nI i)]) (rest := []) ⟨hx, hb, hml, hown, hts⟩ (c_X2_findCupboard l G cy ad n k v o hn hk _ i h_i) (cwV 1 hts gX2_sum_X2_findCupboard rfl rfl rfl (by decide +kernel) ⟨Nat.le_of_ble_eq_true rfl, Nat.le_of_ble_eq_true rfl⟩) (mP_V (r := (RX2, TX2, 5)) hN hE S_0 rfl) rfl rfl hl.1 rfl (lv_room (Nat.le_of_ble_eq_true rfl)) dX2_sum_2 ⟨Nat.le_of_ble_eq_true rfl, Nat.le_of_ble_eq_true rfl⟩) hE.2.2.2 (fun q _ h => mE_A hE q h) (mE_A hE) (fun r uq tq H locs ht hvm hw hB hz1 hk1 hS => ?_)
  obtain ⟨rfl, rfl⟩ := hw
  have hE : mE G (mA ad (Sy cy ad n k v o) s.heap.size) s.heap ad (Sy cy ad n k v o) H locs := mE_call hE hB ht hS
  refine lv_astore_n (lv' := [(3, .ref (ad (100 + i))), (0, .ref (ad 0)), (1, .int (nI i)), (2, .int (nI q))]) hx hb dX2_sum_5 rfl hl (by decide) rfl (fun ls hl => ?_)
  refine lv_iload_n hx hb dX2_sum_6 rfl (lv_at hl 3 rfl) ?_
  refine lv_iconst (v := nI 1) hx hb dX2_sum_7 (by decide) ?_
  refine mv_lt (tgt := 17) hx hb (by omega) (by omega) dX2_sum_8 (by decide) (fun c1 => ?_) (fun c1 => ?_)
  · skip
    exfalso; omega
  · skip
    refine lv_iload_n hx hb dX2_sum_11 rfl (lv_at hl 3 rfl) ?_
    refine lv_bipush (v := nI 31) hx hb dX2_sum_12 (by decide) ?_
    refine mv_le (tgt := 27) hx hb (by omega) (by omega) dX2_sum_14 (by decide) (fun c2 => ?_) (fun c2 => ?_)
    · skip
      refine lv_aload_n hx hb dX2_sum_27 rfl (lv_at hl 0 rfl) ?_
      refine va_getN (D := G) (ci := 0) (v := .ref (ad (300 + i))) (C := RX0) (T := TX0) (N := 3) (host := RX2) hx hb hts hiX0 hown hN.1 (mE_P1 hE (S_ce hn h_i rfl)) 0 rfl rfl 1 (by decide) (va_Nw.use rfl (hN.2.1 (.fieldLinkNest RX2 55 RX0 "sums" "[I" RX2) (by decide +kernel))) (fun _ h9 => h9) rfl dX2_sum_28 ?_
      refine lv_iload_n hx hb dX2_sum_31 rfl (lv_at hl 3 rfl) ?_
      refine mx_iald hx hb hN hE (S_se hn h_i rfl) (j := q) rfl (by omega) (by decide) dX2_sum_32 ?_
      exact mx_iret hx hb hr hE hlocks ⟨rfl, rfl⟩ dX2_sum_33
    · skip
      exfalso; omega

set_option maxHeartbeats 4000000 in
set_option maxRecDepth 100000 in
/-- told -/
theorem c_X2_told (l : Launch) (G : va_G) (cy : Nat → ClassId) (ad : Nat → Nat) (n k : Nat) (v : Nat → Nat → Int32) (o : mC) (hn : n ≤ 6) (hk : k ≤ 20) (sz : Nat) (i : Nat) (h_i : i < n) (t9 : Nat) (ht9 : t9 < 6) : mMi l yX2_told wsX2_told ({ frames := 8, cells := 0, slots := 0, locals := 140 }) G cy ad (Sy cy ad n k v o) sz [.ref (ad 0), .int (nI i), .int (nI t9)] 0 0 (fun (r : Int32) u => r = mTold v k i t9 ∧ u = (ad, Sy cy ad n k v o)) := by
  refine Met.ofW (cc := cX2_told) (maxL := 4) (ret := (some .int)) (by decide) rfl ?_
  intro p e s m args below meth c s₁ B hml hv
  obtain ⟨rfl, hv⟩ := hv
  have hsz := hv.1
  subst hsz
  have hN := hv.2.2
  have hE := mP_E hv
  have hx := B.exec
  have hb := B.bytes
  have hr := B.returns
  have hts := atoms_spec (ws := wsX2_told) B.pre
  have hown : s.vm.findClass RX2 = some m.cls := findClass_of_methodNamed B.named
  have hlocks := B.notSynchronized
  have hiX2 : ∀ w ∈ wsX20, w ∈ wsX2_told := by decide +kernel
  have hiX0 : ∀ w ∈ wsX00, w ∈ wsX2_told := by decide +kernel
  have hl := lv_entry ([.ref (ad 0), .int (nI i), .int (nI t9)]) (n := 4) (Nat.le_of_ble_eq_true rfl)
  rw [lg_entry_eq]
  generalize (lg_sl ([.ref (ad 0), .int (nI i), .int (nI t9)]) ++ List.replicate (4 - (lg_sl ([.ref (ad 0), .int (nI i), .int (nI t9)])).length) Slot.unset).toArray = ls at hl ⊢
  have hl : lv_has ls 4 [(0, .ref (ad 0)), (1, .int (nI i)), (2, .int (nI t9))] := hl
  refine lv_aload_n hx hb dX2_told_0 rfl (lv_at hl 0 rfl) ?_
  refine lv_iload_n hx hb dX2_told_1 rfl (lv_at hl 1 rfl) ?_
  refine va_callq (va_runV (As := [.int (nI i)]) (rest := []) ⟨hx, hb, hml, hown, hts⟩ (c_X2_findCupboard l G cy ad n k v o hn hk _ i h_i) (cwV 1 hts gX2_told_X2_findCupboard rfl rfl rfl (by decide +kernel) ⟨Nat.le_of_ble_eq_true rfl, Nat.le_of_ble_eq_true rfl⟩) (mP_V (r := (RX2, TX2, 5)) hN hE S_0 rfl) rfl rfl hl.1 rfl (lv_room (Nat.le_of_ble_eq_true rfl)) dX2_told_2 ⟨Nat.le_of_ble_eq_true rfl, Nat.le_of_ble_eq_true rfl⟩) hE.2.2.2 (fun q _ h => mE_A hE q h) (mE_A hE) (fun r uq tq H locs ht hvm hw hB hz1 hk1 hS => ?_)
  obtain ⟨rfl, rfl⟩ := hw
  have hE : mE G (mA ad (Sy cy ad n k v o) s.heap.size) s.heap ad (Sy cy ad n k v o) H locs := mE_call hE hB ht hS
  refine lv_astore_n (lv' := [(3, .ref (ad (100 + i))), (0, .ref (ad 0)), (1, .int (nI i)), (2, .int (nI t9))]) hx hb dX2_told_5 rfl hl (by decide) rfl (fun ls hl => ?_)
  refine lv_iload_n hx hb dX2_told_6 rfl (lv_at hl 3 rfl) ?_
  refine lv_bipush (v := nI 6) hx hb dX2_told_7 (by decide) ?_
  refine va_callv (va_runS (As := [.int (nI t9), .int (nI 6)]) (rest := []) ⟨hx, hb, hml, hown, hts⟩ (c_X2_checkWhat l G cy ad (Sy cy ad n k v o) _ t9 6 (by omega) (by omega)) (va_cwS 2 hts gX2_told_X2_checkWhat rfl rfl rfl (by decide +kernel) ⟨Nat.le_of_ble_eq_true rfl, Nat.le_of_ble_eq_true rfl⟩) (mP_S hN hE) rfl rfl hl.1 rfl (lv_room (Nat.le_of_ble_eq_true rfl)) dX2_told_9 ⟨Nat.le_of_ble_eq_true rfl, Nat.le_of_ble_eq_true rfl⟩) hE.2.2.2 (fun q _ h => mE_A hE q h) (mE_A hE) (fun uq tq H locs ht hvm hw hB hz1 hk1 hS => ?_)
  subst hw
  have hE : mE G (mA ad (Sy cy ad n k v o) s.heap.size) s.heap ad (Sy cy ad n k v o) H locs := mE_call hE hB ht hS
  refine lv_iload_n hx hb dX2_told_12 rfl (lv_at hl 3 rfl) ?_
  rcases (show t9 = 0 ∨ t9 = 1 ∨ t9 = 2 ∨ t9 = 3 ∨ t9 = 4 ∨ t9 = 5 by omega) with rfl | rfl | rfl | rfl | rfl | rfl
  · skip
    have hl : lv_has ls 4 [(3, .ref (ad (100 + i))), (0, .ref (ad 0)), (1, .int (nI i)), (2, .int (nI 0))] := hl
    refine lv_tableIn (off := 35) (tgt := 48) hx hb dX2_told_13 (by decide) (by decide) rfl (by decide) ?_
    refine lv_aload_n hx hb dX2_told_48 rfl (lv_at hl 0 rfl) ?_
    refine va_calli (va_runVN (As := []) (rest := []) ⟨hx, hb, hml, hown, hts⟩ (c_X0_root l G cy ad n k v o hn hk _ i h_i) ⟨va_cnB 0 hts gX2_told_X0_root_n76 rfl rfl rfl (hN.2.1 (.methodLinkNest RX2 76 yX0_root RX2) (by decide +kernel)) (hts (.initialized RX0) (by decide +kernel)) (by decide +kernel) ⟨Nat.le_of_ble_eq_true rfl, Nat.le_of_ble_eq_true rfl⟩, (hts (.instanceMethod yX0_root) (by decide +kernel)), (hts (.selects RX0 yX0_root yX0_root) (by decide +kernel))⟩ (mP_V (r := (RX0, TX0, 3)) hN hE (S_ce hn h_i rfl) rfl) rfl rfl hl.1 rfl (lv_room (Nat.le_of_ble_eq_true rfl)) dX2_told_49 ⟨Nat.le_of_ble_eq_true rfl, Nat.le_of_ble_eq_true rfl⟩) hE.2.2.2 (fun q _ h => mE_A hE q h) (mE_A hE) (fun r uq tq H locs ht hvm hw hB hz1 hk1 hS => ?_)
    obtain ⟨rfl, rfl⟩ := hw
    have hE : mE G (mA ad (Sy cy ad n k v o) s.heap.size) s.heap ad (Sy cy ad n k v o) H locs := mE_call hE hB ht hS
    exact mx_iret hx hb hr hE hlocks ⟨rfl, rfl⟩ dX2_told_52
  · skip
    have hl : lv_has ls 4 [(3, .ref (ad (100 + i))), (0, .ref (ad 0)), (1, .int (nI i)), (2, .int (nI 1))] := hl
    refine lv_tableIn (off := 40) (tgt := 53) hx hb dX2_told_13 (by decide) (by decide) rfl (by decide) ?_
    refine lv_aload_n hx hb dX2_told_53 rfl (lv_at hl 0 rfl) ?_
    refine va_getN (D := G) (ci := 0) (v := .int (v (100 + i) 2)) (C := RX0) (T := TX0) (N := 3) (host := RX2) hx hb hts hiX0 hown hN.1 (mE_P1 hE (S_ce hn h_i rfl)) 0 rfl rfl 2 (by decide) (va_Nw.use rfl (hN.2.1 (.fieldLinkNest RX2 80 RX0 "changes" "I" RX2) (by decide +kernel))) (fun _ h9 => h9) rfl dX2_told_54 ?_
    exact mx_iret hx hb hr hE hlocks ⟨rfl, rfl⟩ dX2_told_57
  · skip
    have hl : lv_has ls 4 [(3, .ref (ad (100 + i))), (0, .ref (ad 0)), (1, .int (nI i)), (2, .int (nI 2))] := hl
    refine lv_tableIn (off := 45) (tgt := 58) hx hb dX2_told_13 (by decide) (by decide) rfl (by decide) ?_
    refine lv_aload_n hx hb dX2_told_58 rfl (lv_at hl 0 rfl) ?_
    refine va_calli (va_runVN (As := []) (rest := []) ⟨hx, hb, hml, hown, hts⟩ (c_X0_filledDrawers l G cy ad n k v o hn hk _ i h_i) ⟨va_cnB 0 hts gX2_told_X0_filledDrawers_n83 rfl rfl rfl (hN.2.1 (.methodLinkNest RX2 83 yX0_filledDrawers RX2) (by decide +kernel)) (hts (.initialized RX0) (by decide +kernel)) (by decide +kernel) ⟨Nat.le_of_ble_eq_true rfl, Nat.le_of_ble_eq_true rfl⟩, (hts (.instanceMethod yX0_filledDrawers) (by decide +kernel)), (hts (.selects RX0 yX0_filledDrawers yX0_filledDrawers) (by decide +kernel))⟩ (mP_V (r := (RX0, TX0, 3)) hN hE (S_ce hn h_i rfl) rfl) rfl rfl hl.1 rfl (lv_room (Nat.le_of_ble_eq_true rfl)) dX2_told_59 ⟨Nat.le_of_ble_eq_true rfl, Nat.le_of_ble_eq_true rfl⟩) hE.2.2.2 (fun q _ h => mE_A hE q h) (mE_A hE) (fun r uq tq H locs ht hvm hw hB hz1 hk1 hS => ?_)
    obtain ⟨rfl, rfl⟩ := hw
    have hE : mE G (mA ad (Sy cy ad n k v o) s.heap.size) s.heap ad (Sy cy ad n k v o) H locs := mE_call hE hB ht hS
    exact mx_iret hx hb hr hE hlocks ⟨rfl, rfl⟩ dX2_told_62
  · skip
    have hl : lv_has ls 4 [(3, .ref (ad (100 + i))), (0, .ref (ad 0)), (1, .int (nI i)), (2, .int (nI 3))] := hl
    refine lv_tableIn (off := 50) (tgt := 63) hx hb dX2_told_13 (by decide) (by decide) rfl (by decide) ?_
    refine lv_aload_n hx hb dX2_told_63 rfl (lv_at hl 0 rfl) ?_
    refine va_calli (va_runVN (As := []) (rest := []) ⟨hx, hb, hml, hown, hts⟩ (c_X0_thingsAdded l G cy ad n k v o hn hk _ i h_i) ⟨va_cnB 0 hts gX2_told_X0_thingsAdded_n86 rfl rfl rfl (hN.2.1 (.methodLinkNest RX2 86 yX0_thingsAdded RX2) (by decide +kernel)) (hts (.initialized RX0) (by decide +kernel)) (by decide +kernel) ⟨Nat.le_of_ble_eq_true rfl, Nat.le_of_ble_eq_true rfl⟩, (hts (.instanceMethod yX0_thingsAdded) (by decide +kernel)), (hts (.selects RX0 yX0_thingsAdded yX0_thingsAdded) (by decide +kernel))⟩ (mP_V (r := (RX0, TX0, 3)) hN hE (S_ce hn h_i rfl) rfl) rfl rfl hl.1 rfl (lv_room (Nat.le_of_ble_eq_true rfl)) dX2_told_64 ⟨Nat.le_of_ble_eq_true rfl, Nat.le_of_ble_eq_true rfl⟩) hE.2.2.2 (fun q _ h => mE_A hE q h) (mE_A hE) (fun r uq tq H locs ht hvm hw hB hz1 hk1 hS => ?_)
    obtain ⟨rfl, rfl⟩ := hw
    have hE : mE G (mA ad (Sy cy ad n k v o) s.heap.size) s.heap ad (Sy cy ad n k v o) H locs := mE_call hE hB ht hS
    exact mx_iret hx hb hr hE hlocks ⟨rfl, rfl⟩ dX2_told_67
  · skip
    have hl : lv_has ls 4 [(3, .ref (ad (100 + i))), (0, .ref (ad 0)), (1, .int (nI i)), (2, .int (nI 4))] := hl
    refine lv_tableIn (off := 55) (tgt := 68) hx hb dX2_told_13 (by decide) (by decide) rfl (by decide) ?_
    refine lv_aload_n hx hb dX2_told_68 rfl (lv_at hl 1 rfl) ?_
    refine lv_iload_n hx hb dX2_told_69 rfl (lv_at hl 2 rfl) ?_
    refine va_calli (va_runV (As := [.int (nI i)]) (rest := []) ⟨hx, hb, hml, hown, hts⟩ (c_X2_sealsOf l G cy ad n k v o hn hk _ (nI i)) (cwV 1 hts gX2_told_X2_sealsOf rfl rfl rfl (by decide +kernel) ⟨Nat.le_of_ble_eq_true rfl, Nat.le_of_ble_eq_true rfl⟩) (mP_V (r := (RX2, TX2, 5)) hN hE S_0 rfl) rfl rfl hl.1 rfl (lv_room (Nat.le_of_ble_eq_true rfl)) dX2_told_70 ⟨Nat.le_of_ble_eq_true rfl, Nat.le_of_ble_eq_true rfl⟩) hE.2.2.2 (fun q _ h => mE_A hE q h) (mE_A hE) (fun r uq tq H locs ht hvm hw hB hz1 hk1 hS => ?_)
    obtain ⟨rfl, rfl⟩ := hw
    have hE : mE G (mA ad (Sy cy ad n k v o) s.heap.size) s.heap ad (Sy cy ad n k v o) H locs := mE_call hE hB ht hS
    exact mx_iret hx hb hr hE hlocks ⟨rfl, rfl⟩ dX2_told_73
  · skip
    have hl : lv_has ls 4 [(3, .ref (ad (100 + i))), (0, .ref (ad 0)), (1, .int (nI i)), (2, .int (nI 5))] := hl
    refine lv_tableOut (tgt := 74) hx hb dX2_told_13 (Or.inr (by decide)) (by decide) ?_
    refine lv_aload_n hx hb dX2_told_74 rfl (lv_at hl 1 rfl) ?_
    refine lv_iload_n hx hb dX2_told_75 rfl (lv_at hl 2 rfl) ?_
    refine lv_aload_n hx hb dX2_told_76 rfl (lv_at hl 0 rfl) ?_
    refine va_calli (va_runVN (As := []) (rest := [.int (nI i), .ref (ad 0)]) ⟨hx, hb, hml, hown, hts⟩ (c_X0_root l G cy ad n k v o hn hk _ i h_i) ⟨va_cnB 0 hts gX2_told_X0_root_n76 rfl rfl rfl (hN.2.1 (.methodLinkNest RX2 76 yX0_root RX2) (by decide +kernel)) (hts (.initialized RX0) (by decide +kernel)) (by decide +kernel) ⟨Nat.le_of_ble_eq_true rfl, Nat.le_of_ble_eq_true rfl⟩, (hts (.instanceMethod yX0_root) (by decide +kernel)), (hts (.selects RX0 yX0_root yX0_root) (by decide +kernel))⟩ (mP_V (r := (RX0, TX0, 3)) hN hE (S_ce hn h_i rfl) rfl) rfl rfl hl.1 rfl (lv_room (Nat.le_of_ble_eq_true rfl)) dX2_told_77 ⟨Nat.le_of_ble_eq_true rfl, Nat.le_of_ble_eq_true rfl⟩) hE.2.2.2 (fun q _ h => mE_A hE q h) (mE_A hE) (fun r uq tq H locs ht hvm hw hB hz1 hk1 hS => ?_)
    obtain ⟨rfl, rfl⟩ := hw
    have hE : mE G (mA ad (Sy cy ad n k v o) s.heap.size) s.heap ad (Sy cy ad n k v o) H locs := mE_call hE hB ht hS
    refine va_calli (va_runV (As := [.int (nI i), .int (v (300 + i) 1)]) (rest := []) ⟨hx, hb, hml, hown, hts⟩ (c_X2_sealsKept l G cy ad n k v o hn hk _ (nI i) (v (300 + i) 1)) (cwV 2 hts gX2_told_X2_sealsKept rfl rfl rfl (by decide +kernel) ⟨Nat.le_of_ble_eq_true rfl, Nat.le_of_ble_eq_true rfl⟩) (mP_V (r := (RX2, TX2, 5)) hN hE S_0 rfl) rfl rfl hl.1 rfl (lv_room (Nat.le_of_ble_eq_true rfl)) dX2_told_80 ⟨Nat.le_of_ble_eq_true rfl, Nat.le_of_ble_eq_true rfl⟩) hE.2.2.2 (fun q _ h => mE_A hE q h) (mE_A hE) (fun r uq tq H locs ht hvm hw hB hz1 hk1 hS => ?_)
    obtain ⟨rfl, rfl⟩ := hw
    have hE : mE G (mA ad (Sy cy ad n k v o) s.heap.size) s.heap ad (Sy cy ad n k v o) H locs := mE_call hE hB ht hS
    exact mx_iret hx hb hr hE hlocks ⟨rfl, rfl⟩ dX2_told_83

set_option maxHeartbeats 4000000 in
set_option maxRecDepth 100000 in
/-- thing -/
theorem c_X2_thing (l : Launch) (G : va_G) (cy : Nat → ClassId) (ad : Nat → Nat) (n k : Nat) (v : Nat → Nat → Int32) (o : mC) (hn : n ≤ 6) (hk : k ≤ 20) (sz : Nat) (i : Nat) (h_i : i < n) (d : Nat) (hd : d < 16) : mMi l yX2_thing wsX2_thing ({ frames := 8, cells := 0, slots := 0, locals := 140 }) G cy ad (Sy cy ad n k v o) sz [.ref (ad 0), .int (nI i), .int (nI d)] 0 0 (fun (r : Int32) u => r = v (200 + i) d ∧ u = (ad, Sy cy ad n k v o)) := by
  refine Met.ofW (cc := cX2_thing) (maxL := 4) (ret := (some .int)) (by decide) rfl ?_
  intro p e s m args below meth c s₁ B hml hv
  obtain ⟨rfl, hv⟩ := hv
  have hsz := hv.1
  subst hsz
  have hN := hv.2.2
  have hE := mP_E hv
  have hx := B.exec
  have hb := B.bytes
  have hr := B.returns
  have hts := atoms_spec (ws := wsX2_thing) B.pre
  have hown : s.vm.findClass RX2 = some m.cls := findClass_of_methodNamed B.named
  have hlocks := B.notSynchronized
  have hiX2 : ∀ w ∈ wsX20, w ∈ wsX2_thing := by decide +kernel
  have hiX0 : ∀ w ∈ wsX00, w ∈ wsX2_thing := by decide +kernel
  have hl := lv_entry ([.ref (ad 0), .int (nI i), .int (nI d)]) (n := 4) (Nat.le_of_ble_eq_true rfl)
  rw [lg_entry_eq]
  generalize (lg_sl ([.ref (ad 0), .int (nI i), .int (nI d)]) ++ List.replicate (4 - (lg_sl ([.ref (ad 0), .int (nI i), .int (nI d)])).length) Slot.unset).toArray = ls at hl ⊢
  have hl : lv_has ls 4 [(0, .ref (ad 0)), (1, .int (nI i)), (2, .int (nI d))] := hl
  refine lv_aload_n hx hb dX2_thing_0 rfl (lv_at hl 0 rfl) ?_
  refine lv_iload_n hx hb dX2_thing_1 rfl (lv_at hl 1 rfl) ?_
  refine va_callq (va_runV (As := [.int (nI i)]) (rest := []) ⟨hx, hb, hml, hown, hts⟩ (c_X2_findCupboard l G cy ad n k v o hn hk _ i h_i) (cwV 1 hts gX2_thing_X2_findCupboard rfl rfl rfl (by decide +kernel) ⟨Nat.le_of_ble_eq_true rfl, Nat.le_of_ble_eq_true rfl⟩) (mP_V (r := (RX2, TX2, 5)) hN hE S_0 rfl) rfl rfl hl.1 rfl (lv_room (Nat.le_of_ble_eq_true rfl)) dX2_thing_2 ⟨Nat.le_of_ble_eq_true rfl, Nat.le_of_ble_eq_true rfl⟩) hE.2.2.2 (fun q _ h => mE_A hE q h) (mE_A hE) (fun r uq tq H locs ht hvm hw hB hz1 hk1 hS => ?_)
  obtain ⟨rfl, rfl⟩ := hw
  have hE : mE G (mA ad (Sy cy ad n k v o) s.heap.size) s.heap ad (Sy cy ad n k v o) H locs := mE_call hE hB ht hS
  refine lv_astore_n (lv' := [(3, .ref (ad (100 + i))), (0, .ref (ad 0)), (1, .int (nI i)), (2, .int (nI d))]) hx hb dX2_thing_5 rfl hl (by decide) rfl (fun ls hl => ?_)
  refine lv_iload_n hx hb dX2_thing_6 rfl (lv_at hl 3 rfl) ?_
  refine va_callv (va_runS (As := [.int (nI d)]) (rest := []) ⟨hx, hb, hml, hown, hts⟩ (c_X2_checkDrawer l G cy ad (Sy cy ad n k v o) _ d (by omega)) (va_cwS 1 hts gX2_thing_X2_checkDrawer rfl rfl rfl (by decide +kernel) ⟨Nat.le_of_ble_eq_true rfl, Nat.le_of_ble_eq_true rfl⟩) (mP_S hN hE) rfl rfl hl.1 rfl (lv_room (Nat.le_of_ble_eq_true rfl)) dX2_thing_7 ⟨Nat.le_of_ble_eq_true rfl, Nat.le_of_ble_eq_true rfl⟩) hE.2.2.2 (fun q _ h => mE_A hE q h) (mE_A hE) (fun uq tq H locs ht hvm hw hB hz1 hk1 hS => ?_)
  subst hw
  have hE : mE G (mA ad (Sy cy ad n k v o) s.heap.size) s.heap ad (Sy cy ad n k v o) H locs := mE_call hE hB ht hS
  refine lv_aload_n hx hb dX2_thing_10 rfl (lv_at hl 0 rfl) ?_
  refine va_getN (D := G) (ci := 0) (v := .ref (ad (200 + i))) (C := RX0) (T := TX0) (N := 3) (host := RX2) hx hb hts hiX0 hown hN.1 (mE_P1 hE (S_ce hn h_i rfl)) 0 rfl rfl 0 (by decide) (va_Nw.use rfl (hN.2.1 (.fieldLinkNest RX2 48 RX0 "things" "[I" RX2) (by decide +kernel))) (fun _ h9 => h9) rfl dX2_thing_11 ?_
  refine lv_iload_n hx hb dX2_thing_14 rfl (lv_at hl 3 rfl) ?_
  refine mx_iald hx hb hN hE (S_te hn h_i rfl) (j := d) rfl (by omega) (by decide) dX2_thing_15 ?_
  exact mx_iret hx hb hr hE hlocks ⟨rfl, rfl⟩ dX2_thing_16

set_option maxHeartbeats 4000000 in
set_option maxRecDepth 100000 in
/-- about -/
theorem c_X2_about (l : Launch) (G : va_G) (cy : Nat → ClassId) (ad : Nat → Nat) (n k : Nat) (v : Nat → Nat → Int32) (o : mC) (hn : n ≤ 6) (hk : k ≤ 20) (sz : Nat) (j : Nat) (h_j : j < k) (t9 : Nat) (ht9 : t9 < 4) (cu : Nat) (h_cu : cu < n) (hsc : v (400 + j) 0 = nI cu) : mMi l yX2_about wsX2_about ({ frames := 8, cells := 0, slots := 0, locals := 140 }) G cy ad (Sy cy ad n k v o) sz [.ref (ad 0), .int (nI j), .int (nI t9)] 0 0 (fun (r : Int32) u => r = mAbout v j cu t9 ∧ u = (ad, Sy cy ad n k v o)) := by
  refine Met.ofW (cc := cX2_about) (maxL := 4) (ret := (some .int)) (by decide) rfl ?_
  intro p e s m args below meth c s₁ B hml hv
  obtain ⟨rfl, hv⟩ := hv
  have hsz := hv.1
  subst hsz
  have hN := hv.2.2
  have hE := mP_E hv
  have hx := B.exec
  have hb := B.bytes
  have hr := B.returns
  have hts := atoms_spec (ws := wsX2_about) B.pre
  have hown : s.vm.findClass RX2 = some m.cls := findClass_of_methodNamed B.named
  have hlocks := B.notSynchronized
  have hiX2 : ∀ w ∈ wsX20, w ∈ wsX2_about := by decide +kernel
  have hiX1 : ∀ w ∈ wsX10, w ∈ wsX2_about := by decide +kernel
  have hiX0 : ∀ w ∈ wsX00, w ∈ wsX2_about := by decide +kernel
  have hl := lv_entry ([.ref (ad 0), .int (nI j), .int (nI t9)]) (n := 4) (Nat.le_of_ble_eq_true rfl)
  rw [lg_entry_eq]
  generalize (lg_sl ([.ref (ad 0), .int (nI j), .int (nI t9)]) ++ List.replicate (4 - (lg_sl ([.ref (ad 0), .int (nI j), .int (nI t9)])).length) Slot.unset).toArray = ls at hl ⊢
  have hl : lv_has ls 4 [(0, .ref (ad 0)), (1, .int (nI j)), (2, .int (nI t9))] := hl
  refine lv_aload_n hx hb dX2_about_0 rfl (lv_at hl 0 rfl) ?_
  refine lv_iload_n hx hb dX2_about_1 rfl (lv_at hl 1 rfl) ?_
  refine va_callq (va_runV (As := [.int (nI j)]) (rest := []) ⟨hx, hb, hml, hown, hts⟩ (c_X2_findSeal l G cy ad n k v o hn hk _ j h_j) (cwV 1 hts gX2_about_X2_findSeal rfl rfl rfl (by decide +kernel) ⟨Nat.le_of_ble_eq_true rfl, Nat.le_of_ble_eq_true rfl⟩) (mP_V (r := (RX2, TX2, 5)) hN hE S_0 rfl) rfl rfl hl.1 rfl (lv_room (Nat.le_of_ble_eq_true rfl)) dX2_about_2 ⟨Nat.le_of_ble_eq_true rfl, Nat.le_of_ble_eq_true rfl⟩) hE.2.2.2 (fun q _ h => mE_A hE q h) (mE_A hE) (fun r uq tq H locs ht hvm hw hB hz1 hk1 hS => ?_)
  obtain ⟨rfl, rfl⟩ := hw
  have hE : mE G (mA ad (Sy cy ad n k v o) s.heap.size) s.heap ad (Sy cy ad n k v o) H locs := mE_call hE hB ht hS
  refine lv_astore_n (lv' := [(3, .ref (ad (400 + j))), (0, .ref (ad 0)), (1, .int (nI j)), (2, .int (nI t9))]) hx hb dX2_about_5 rfl hl (by decide) rfl (fun ls hl => ?_)
  refine lv_iload_n hx hb dX2_about_6 rfl (lv_at hl 3 rfl) ?_
  refine lv_iconst (v := nI 4) hx hb dX2_about_7 (by decide) ?_
  refine va_callv (va_runS (As := [.int (nI t9), .int (nI 4)]) (rest := []) ⟨hx, hb, hml, hown, hts⟩ (c_X2_checkWhat l G cy ad (Sy cy ad n k v o) _ t9 4 (by omega) (by omega)) (va_cwS 2 hts gX2_about_X2_checkWhat rfl rfl rfl (by decide +kernel) ⟨Nat.le_of_ble_eq_true rfl, Nat.le_of_ble_eq_true rfl⟩) (mP_S hN hE) rfl rfl hl.1 rfl (lv_room (Nat.le_of_ble_eq_true rfl)) dX2_about_8 ⟨Nat.le_of_ble_eq_true rfl, Nat.le_of_ble_eq_true rfl⟩) hE.2.2.2 (fun q _ h => mE_A hE q h) (mE_A hE) (fun uq tq H locs ht hvm hw hB hz1 hk1 hS => ?_)
  subst hw
  have hE : mE G (mA ad (Sy cy ad n k v o) s.heap.size) s.heap ad (Sy cy ad n k v o) H locs := mE_call hE hB ht hS
  refine lv_iload_n hx hb dX2_about_11 rfl (lv_at hl 3 rfl) ?_
  rcases (show t9 = 0 ∨ t9 = 1 ∨ t9 = 2 ∨ t9 = 3 by omega) with rfl | rfl | rfl | rfl
  · skip
    have hl : lv_has ls 4 [(3, .ref (ad (400 + j))), (0, .ref (ad 0)), (1, .int (nI j)), (2, .int (nI 0))] := hl
    refine lv_tableIn (off := 28) (tgt := 40) hx hb dX2_about_12 (by decide) (by decide) rfl (by decide) ?_
    refine lv_aload_n hx hb dX2_about_40 rfl (lv_at hl 0 rfl) ?_
    refine va_getN (D := G) (ci := 1) (v := .int (nI cu)) (C := RX1) (T := TX1) (N := 3) (host := RX2) hx hb hts hiX1 hown hN.1 (mE_P1 hE (S_soc hn h_j hsc)) 0 rfl rfl 0 (by decide) (va_Nw.use rfl (hN.2.1 (.fieldLinkNest RX2 109 RX1 "cupboard" "I" RX2) (by decide +kernel))) (fun _ h9 => h9) rfl dX2_about_41 ?_
    exact mx_iret hx hb hr hE hlocks ⟨rfl, rfl⟩ dX2_about_44
  · skip
    have hl : lv_has ls 4 [(3, .ref (ad (400 + j))), (0, .ref (ad 0)), (1, .int (nI j)), (2, .int (nI 1))] := hl
    refine lv_tableIn (off := 33) (tgt := 45) hx hb dX2_about_12 (by decide) (by decide) rfl (by decide) ?_
    refine lv_aload_n hx hb dX2_about_45 rfl (lv_at hl 0 rfl) ?_
    refine va_getN (D := G) (ci := 1) (v := .int (v (400 + j) 1)) (C := RX1) (T := TX1) (N := 3) (host := RX2) hx hb hts hiX1 hown hN.1 (mE_P1 hE (S_soc hn h_j hsc)) 0 rfl rfl 1 (by decide) (va_Nw.use rfl (hN.2.1 (.fieldLinkNest RX2 112 RX1 "root" "I" RX2) (by decide +kernel))) (fun _ h9 => h9) rfl dX2_about_46 ?_
    exact mx_iret hx hb hr hE hlocks ⟨rfl, rfl⟩ dX2_about_49
  · skip
    have hl : lv_has ls 4 [(3, .ref (ad (400 + j))), (0, .ref (ad 0)), (1, .int (nI j)), (2, .int (nI 2))] := hl
    refine lv_tableIn (off := 38) (tgt := 50) hx hb dX2_about_12 (by decide) (by decide) rfl (by decide) ?_
    refine lv_aload_n hx hb dX2_about_50 rfl (lv_at hl 0 rfl) ?_
    refine va_getN (D := G) (ci := 1) (v := .int (v (400 + j) 2)) (C := RX1) (T := TX1) (N := 3) (host := RX2) hx hb hts hiX1 hown hN.1 (mE_P1 hE (S_soc hn h_j hsc)) 0 rfl rfl 2 (by decide) (va_Nw.use rfl (hN.2.1 (.fieldLinkNest RX2 114 RX1 "changes" "I" RX2) (by decide +kernel))) (fun _ h9 => h9) rfl dX2_about_51 ?_
    exact mx_iret hx hb hr hE hlocks ⟨rfl, rfl⟩ dX2_about_54
  · skip
    have hl : lv_has ls 4 [(3, .ref (ad (400 + j))), (0, .ref (ad 0)), (1, .int (nI j)), (2, .int (nI 3))] := hl
    refine lv_tableOut (tgt := 55) hx hb dX2_about_12 (Or.inr (by decide)) (by decide) ?_
    refine lv_aload_n hx hb dX2_about_55 rfl (lv_at hl 1 rfl) ?_
    refine lv_aload_n hx hb dX2_about_56 rfl (lv_at hl 0 rfl) ?_
    refine va_getN (D := G) (ci := 1) (v := .int (nI cu)) (C := RX1) (T := TX1) (N := 3) (host := RX2) hx hb hts hiX1 hown hN.1 (mE_P1 hE (S_soc hn h_j hsc)) 0 rfl rfl 0 (by decide) (va_Nw.use rfl (hN.2.1 (.fieldLinkNest RX2 109 RX1 "cupboard" "I" RX2) (by decide +kernel))) (fun _ h9 => h9) rfl dX2_about_57 ?_
    refine va_callq (va_runV (As := [.int (nI cu)]) (rest := []) ⟨hx, hb, hml, hown, hts⟩ (c_X2_findCupboard l G cy ad n k v o hn hk _ cu h_cu) (cwV 1 hts gX2_about_X2_findCupboard rfl rfl rfl (by decide +kernel) ⟨Nat.le_of_ble_eq_true rfl, Nat.le_of_ble_eq_true rfl⟩) (mP_V (r := (RX2, TX2, 5)) hN hE S_0 rfl) rfl rfl hl.1 rfl (lv_room (Nat.le_of_ble_eq_true rfl)) dX2_about_60 ⟨Nat.le_of_ble_eq_true rfl, Nat.le_of_ble_eq_true rfl⟩) hE.2.2.2 (fun q _ h => mE_A hE q h) (mE_A hE) (fun r uq tq H locs ht hvm hw hB hz1 hk1 hS => ?_)
    obtain ⟨rfl, rfl⟩ := hw
    have hE : mE G (mA ad (Sy cy ad n k v o) s.heap.size) s.heap ad (Sy cy ad n k v o) H locs := mE_call hE hB ht hS
    refine va_getN (D := G) (ci := 0) (v := .int (v (100 + cu) 2)) (C := RX0) (T := TX0) (N := 3) (host := RX2) hx hb hts hiX0 hown hN.1 (mE_P1 hE (S_ce hn h_cu rfl)) 0 rfl rfl 2 (by decide) (va_Nw.use rfl (hN.2.1 (.fieldLinkNest RX2 80 RX0 "changes" "I" RX2) (by decide +kernel))) (fun _ h9 => h9) rfl dX2_about_63 ?_
    refine lv_aload_n hx hb dX2_about_66 rfl (lv_at hl 0 rfl) ?_
    refine va_getN (D := G) (ci := 1) (v := .int (v (400 + j) 2)) (C := RX1) (T := TX1) (N := 3) (host := RX2) hx hb hts hiX1 hown hN.1 (mE_P1 hE (S_soc hn h_j hsc)) 0 rfl rfl 2 (by decide) (va_Nw.use rfl (hN.2.1 (.fieldLinkNest RX2 114 RX1 "changes" "I" RX2) (by decide +kernel))) (fun _ h9 => h9) rfl dX2_about_67 ?_
    refine mv_isub (z := (v (100 + cu) 2) - (v (400 + j) 2)) hx hb rfl dX2_about_70 ?_
    exact mx_iret hx hb hr hE hlocks ⟨rfl, rfl⟩ dX2_about_71

set_option maxHeartbeats 4000000 in
set_option maxRecDepth 100000 in
/-- count -/
theorem c_X2_count (l : Launch) (G : va_G) (cy : Nat → ClassId) (ad : Nat → Nat) (n k : Nat) (v : Nat → Nat → Int32) (o : mC) (hn : n ≤ 6) (hk : k ≤ 20) (sz : Nat) (t9 : Nat) (ht9 : t9 < 4) : mMi l yX2_count wsX2_count ({ frames := 10, cells := 0, slots := 0, locals := 220 }) G cy ad (Sy cy ad n k v o) sz [.ref (ad 0), .int (nI t9)] 0 0 (fun (r : Int32) u => r = mCount v n k t9 ∧ u = (ad, Sy cy ad n k v o)) := by
  refine Met.ofW (cc := cX2_count) (maxL := 2) (ret := (some .int)) (by decide) rfl ?_
  intro p e s m args below meth c s₁ B hml hv
  obtain ⟨rfl, hv⟩ := hv
  have hsz := hv.1
  subst hsz
  have hN := hv.2.2
  have hE := mP_E hv
  have hx := B.exec
  have hb := B.bytes
  have hr := B.returns
  have hts := atoms_spec (ws := wsX2_count) B.pre
  have hown : s.vm.findClass RX2 = some m.cls := findClass_of_methodNamed B.named
  have hlocks := B.notSynchronized
  have hiX2 : ∀ w ∈ wsX20, w ∈ wsX2_count := by decide +kernel
  have hl := lv_entry ([.ref (ad 0), .int (nI t9)]) (n := 2) (Nat.le_of_ble_eq_true rfl)
  rw [lg_entry_eq]
  generalize (lg_sl ([.ref (ad 0), .int (nI t9)]) ++ List.replicate (2 - (lg_sl ([.ref (ad 0), .int (nI t9)])).length) Slot.unset).toArray = ls at hl ⊢
  have hl : lv_has ls 2 [(0, .ref (ad 0)), (1, .int (nI t9))] := hl
  refine lv_iload_n hx hb dX2_count_0 rfl (lv_at hl 1 rfl) ?_
  refine lv_iconst (v := nI 4) hx hb dX2_count_1 (by decide) ?_
  refine va_callv (va_runS (As := [.int (nI t9), .int (nI 4)]) (rest := []) ⟨hx, hb, hml, hown, hts⟩ (c_X2_checkWhat l G cy ad (Sy cy ad n k v o) _ t9 4 (by omega) (by omega)) (va_cwS 2 hts gX2_count_X2_checkWhat rfl rfl rfl (by decide +kernel) ⟨Nat.le_of_ble_eq_true rfl, Nat.le_of_ble_eq_true rfl⟩) (mP_S hN hE) rfl rfl hl.1 rfl (lv_room (Nat.le_of_ble_eq_true rfl)) dX2_count_2 ⟨Nat.le_of_ble_eq_true rfl, Nat.le_of_ble_eq_true rfl⟩) hE.2.2.2 (fun q _ h => mE_A hE q h) (mE_A hE) (fun uq tq H locs ht hvm hw hB hz1 hk1 hS => ?_)
  subst hw
  have hE : mE G (mA ad (Sy cy ad n k v o) s.heap.size) s.heap ad (Sy cy ad n k v o) H locs := mE_call hE hB ht hS
  refine lv_iload_n hx hb dX2_count_5 rfl (lv_at hl 1 rfl) ?_
  rcases (show t9 = 0 ∨ t9 = 1 ∨ t9 = 2 ∨ t9 = 3 by omega) with rfl | rfl | rfl | rfl
  · skip
    have hl : lv_has ls 2 [(0, .ref (ad 0)), (1, .int (nI 0))] := hl
    refine lv_tableIn (off := 26) (tgt := 32) hx hb dX2_count_6 (by decide) (by decide) rfl (by decide) ?_
    refine lv_aload_n hx hb dX2_count_32 rfl (lv_at hl 0 rfl) ?_
    refine va_get (D := G) (ci := 2) (v := .int (nI n)) (C := RX2) (T := TX2) (N := 5) hx hb hts hiX2 hown hN.1 (mE_P1 hE S_0) 0 rfl rfl 3 (by decide) (hts (.fieldLink RX2 25 "SealedCupboards" "cupboardCount" "I") (by decide +kernel)) (fun _ h9 => h9) rfl dX2_count_33 ?_
    exact mx_iret hx hb hr hE hlocks ⟨rfl, rfl⟩ dX2_count_36
  · skip
    have hl : lv_has ls 2 [(0, .ref (ad 0)), (1, .int (nI 1))] := hl
    refine lv_tableIn (off := 31) (tgt := 37) hx hb dX2_count_6 (by decide) (by decide) rfl (by decide) ?_
    refine lv_aload_n hx hb dX2_count_37 rfl (lv_at hl 0 rfl) ?_
    refine va_get (D := G) (ci := 2) (v := .int (nI k)) (C := RX2) (T := TX2) (N := 5) hx hb hts hiX2 hown hN.1 (mE_P1 hE S_0) 0 rfl rfl 4 (by decide) (hts (.fieldLink RX2 97 "SealedCupboards" "sealCount" "I") (by decide +kernel)) (fun _ h9 => h9) rfl dX2_count_38 ?_
    exact mx_iret hx hb hr hE hlocks ⟨rfl, rfl⟩ dX2_count_41
  · skip
    have hl : lv_has ls 2 [(0, .ref (ad 0)), (1, .int (nI 2))] := hl
    refine lv_tableIn (off := 36) (tgt := 42) hx hb dX2_count_6 (by decide) (by decide) rfl (by decide) ?_
    refine lv_aload_n hx hb dX2_count_42 rfl (lv_at hl 0 rfl) ?_
    refine va_calli (va_runV (As := []) (rest := []) ⟨hx, hb, hml, hown, hts⟩ (c_X2_differentRoots l G cy ad n k v o hn hk _) (cwV 0 hts gX2_count_X2_differentRoots rfl rfl rfl (by decide +kernel) ⟨Nat.le_of_ble_eq_true rfl, Nat.le_of_ble_eq_true rfl⟩) (mP_V (r := (RX2, TX2, 5)) hN hE S_0 rfl) rfl rfl hl.1 rfl (lv_room (Nat.le_of_ble_eq_true rfl)) dX2_count_43 ⟨Nat.le_of_ble_eq_true rfl, Nat.le_of_ble_eq_true rfl⟩) hE.2.2.2 (fun q _ h => mE_A hE q h) (mE_A hE) (fun r uq tq H locs ht hvm hw hB hz1 hk1 hS => ?_)
    obtain ⟨rfl, rfl⟩ := hw
    have hE : mE G (mA ad (Sy cy ad n k v o) s.heap.size) s.heap ad (Sy cy ad n k v o) H locs := mE_call hE hB ht hS
    exact mx_iret hx hb hr hE hlocks ⟨rfl, rfl⟩ dX2_count_46
  · skip
    have hl : lv_has ls 2 [(0, .ref (ad 0)), (1, .int (nI 3))] := hl
    refine lv_tableOut (tgt := 47) hx hb dX2_count_6 (Or.inr (by decide)) (by decide) ?_
    refine lv_aload_n hx hb dX2_count_47 rfl (lv_at hl 0 rfl) ?_
    refine va_calli (va_runV (As := []) (rest := []) ⟨hx, hb, hml, hown, hts⟩ (c_X2_changesAdded l G cy ad n k v o hn hk _) (cwV 0 hts gX2_count_X2_changesAdded rfl rfl rfl (by decide +kernel) ⟨Nat.le_of_ble_eq_true rfl, Nat.le_of_ble_eq_true rfl⟩) (mP_V (r := (RX2, TX2, 5)) hN hE S_0 rfl) rfl rfl hl.1 rfl (lv_room (Nat.le_of_ble_eq_true rfl)) dX2_count_48 ⟨Nat.le_of_ble_eq_true rfl, Nat.le_of_ble_eq_true rfl⟩) hE.2.2.2 (fun q _ h => mE_A hE q h) (mE_A hE) (fun r uq tq H locs ht hvm hw hB hz1 hk1 hS => ?_)
    obtain ⟨rfl, rfl⟩ := hw
    have hE : mE G (mA ad (Sy cy ad n k v o) s.heap.size) s.heap ad (Sy cy ad n k v o) H locs := mE_call hE hB ht hS
    exact mx_iret hx hb hr hE hlocks ⟨rfl, rfl⟩ dX2_count_51

set_option maxHeartbeats 4000000 in
set_option maxRecDepth 100000 in
/-- differ -/
theorem c_X2_differ (l : Launch) (G : va_G) (cy : Nat → ClassId) (ad : Nat → Nat) (n k : Nat) (v : Nat → Nat → Int32) (o : mC) (hn : n ≤ 6) (hk : k ≤ 20) (sz : Nat) (a b : Nat) (h_a : a < n) (h_b : b < n) : mMi l yX2_differ wsX2_differ ({ frames := 10, cells := 0, slots := 0, locals := 220 }) G cy ad (Sy cy ad n k v o) sz [.ref (ad 0), .int (nI a), .int (nI b)] 0 0 (fun (r : Int32) u => r = nI (mDr (mLook (v (300 + a)) (v (300 + b)) 15) (v (300 + a)) (v (300 + b)) 16) ∧ u = (ad, Sy cy ad n k v o)) := by
  refine Met.ofW (cc := cX2_differ) (maxL := 3) (ret := (some .int)) (by decide) rfl ?_
  intro p e s m args below meth c s₁ B hml hv
  obtain ⟨rfl, hv⟩ := hv
  have hsz := hv.1
  subst hsz
  have hN := hv.2.2
  have hE := mP_E hv
  have hx := B.exec
  have hb := B.bytes
  have hr := B.returns
  have hts := atoms_spec (ws := wsX2_differ) B.pre
  have hown : s.vm.findClass RX2 = some m.cls := findClass_of_methodNamed B.named
  have hlocks := B.notSynchronized
  have hiX2 : ∀ w ∈ wsX20, w ∈ wsX2_differ := by decide +kernel
  have hiX0 : ∀ w ∈ wsX00, w ∈ wsX2_differ := by decide +kernel
  have hl := lv_entry ([.ref (ad 0), .int (nI a), .int (nI b)]) (n := 3) (Nat.le_of_ble_eq_true rfl)
  rw [lg_entry_eq]
  generalize (lg_sl ([.ref (ad 0), .int (nI a), .int (nI b)]) ++ List.replicate (3 - (lg_sl ([.ref (ad 0), .int (nI a), .int (nI b)])).length) Slot.unset).toArray = ls at hl ⊢
  have hl : lv_has ls 3 [(0, .ref (ad 0)), (1, .int (nI a)), (2, .int (nI b))] := hl
  refine lv_aload_n hx hb dX2_differ_0 rfl (lv_at hl 0 rfl) ?_
  refine lv_iload_n hx hb dX2_differ_1 rfl (lv_at hl 1 rfl) ?_
  refine va_callq (va_runV (As := [.int (nI a)]) (rest := []) ⟨hx, hb, hml, hown, hts⟩ (c_X2_findCupboard l G cy ad n k v o hn hk _ a h_a) (cwV 1 hts gX2_differ_X2_findCupboard rfl rfl rfl (by decide +kernel) ⟨Nat.le_of_ble_eq_true rfl, Nat.le_of_ble_eq_true rfl⟩) (mP_V (r := (RX2, TX2, 5)) hN hE S_0 rfl) rfl rfl hl.1 rfl (lv_room (Nat.le_of_ble_eq_true rfl)) dX2_differ_2 ⟨Nat.le_of_ble_eq_true rfl, Nat.le_of_ble_eq_true rfl⟩) hE.2.2.2 (fun q _ h => mE_A hE q h) (mE_A hE) (fun r uq tq H locs ht hvm hw hB hz1 hk1 hS => ?_)
  obtain ⟨rfl, rfl⟩ := hw
  have hE : mE G (mA ad (Sy cy ad n k v o) s.heap.size) s.heap ad (Sy cy ad n k v o) H locs := mE_call hE hB ht hS
  refine va_getN (D := G) (ci := 0) (v := .ref (ad (300 + a))) (C := RX0) (T := TX0) (N := 3) (host := RX2) hx hb hts hiX0 hown hN.1 (mE_P1 hE (S_ce hn h_a rfl)) 0 rfl rfl 1 (by decide) (va_Nw.use rfl (hN.2.1 (.fieldLinkNest RX2 55 RX0 "sums" "[I" RX2) (by decide +kernel))) (fun _ h9 => h9) rfl dX2_differ_5 ?_
  refine lv_aload_n hx hb dX2_differ_8 rfl (lv_at hl 0 rfl) ?_
  refine lv_iload_n hx hb dX2_differ_9 rfl (lv_at hl 2 rfl) ?_
  refine va_callq (va_runV (As := [.int (nI b)]) (rest := [.ref (ad (300 + a))]) ⟨hx, hb, hml, hown, hts⟩ (c_X2_findCupboard l G cy ad n k v o hn hk _ b h_b) (cwV 1 hts gX2_differ_X2_findCupboard rfl rfl rfl (by decide +kernel) ⟨Nat.le_of_ble_eq_true rfl, Nat.le_of_ble_eq_true rfl⟩) (mP_V (r := (RX2, TX2, 5)) hN hE S_0 rfl) rfl rfl hl.1 rfl (lv_room (Nat.le_of_ble_eq_true rfl)) dX2_differ_10 ⟨Nat.le_of_ble_eq_true rfl, Nat.le_of_ble_eq_true rfl⟩) hE.2.2.2 (fun q _ h => mE_A hE q h) (mE_A hE) (fun r uq tq H locs ht hvm hw hB hz1 hk1 hS => ?_)
  obtain ⟨rfl, rfl⟩ := hw
  have hE : mE G (mA ad (Sy cy ad n k v o) s.heap.size) s.heap ad (Sy cy ad n k v o) H locs := mE_call hE hB ht hS
  refine va_getN (D := G) (ci := 0) (v := .ref (ad (300 + b))) (C := RX0) (T := TX0) (N := 3) (host := RX2) hx hb hts hiX0 hown hN.1 (mE_P1 hE (S_ce hn h_b rfl)) 0 rfl rfl 1 (by decide) (va_Nw.use rfl (hN.2.1 (.fieldLinkNest RX2 55 RX0 "sums" "[I" RX2) (by decide +kernel))) (fun _ h9 => h9) rfl dX2_differ_13 ?_
  refine va_calli (va_runS (As := [.ref (ad (300 + a)), .ref (ad (300 + b))]) (rest := []) ⟨hx, hb, hml, hown, hts⟩ (c_X2_drawersApart l G cy ad n k v o hn hk _ (300 + a) (300 + b) (fun g => sy_s hn h_a) (fun g => sy_s hn h_b)) (va_cwS 2 hts gX2_differ_X2_drawersApart rfl rfl rfl (by decide +kernel) ⟨Nat.le_of_ble_eq_true rfl, Nat.le_of_ble_eq_true rfl⟩) (mP_S hN hE) rfl rfl hl.1 rfl (lv_room (Nat.le_of_ble_eq_true rfl)) dX2_differ_16 ⟨Nat.le_of_ble_eq_true rfl, Nat.le_of_ble_eq_true rfl⟩) hE.2.2.2 (fun q _ h => mE_A hE q h) (mE_A hE) (fun r uq tq H locs ht hvm hw hB hz1 hk1 hS => ?_)
  obtain ⟨rfl, rfl⟩ := hw
  have hE : mE G (mA ad (Sy cy ad n k v o) s.heap.size) s.heap ad (Sy cy ad n k v o) H locs := mE_call hE hB ht hS
  exact mx_iret hx hb hr hE hlocks ⟨rfl, rfl⟩ dX2_differ_19

set_option maxHeartbeats 4000000 in
set_option maxRecDepth 100000 in
/-- looks -/
theorem c_X2_looks (l : Launch) (G : va_G) (cy : Nat → ClassId) (ad : Nat → Nat) (n k : Nat) (v : Nat → Nat → Int32) (o : mC) (hn : n ≤ 6) (hk : k ≤ 20) (sz : Nat) (a b : Nat) (h_a : a < n) (h_b : b < n) : mMi l yX2_looks wsX2_looks ({ frames := 9, cells := 0, slots := 0, locals := 180 }) G cy ad (Sy cy ad n k v o) sz [.ref (ad 0), .int (nI a), .int (nI b)] 0 0 (fun (r : Int32) u => r = mBc (nI (mLook (v (300 + a)) (v (300 + b)) 15)) ∧ u = (ad, Sy cy ad n k v o)) := by
  refine Met.ofW (cc := cX2_looks) (maxL := 3) (ret := (some .int)) (by decide) rfl ?_
  intro p e s m args below meth c s₁ B hml hv
  obtain ⟨rfl, hv⟩ := hv
  have hsz := hv.1
  subst hsz
  have hN := hv.2.2
  have hE := mP_E hv
  have hx := B.exec
  have hb := B.bytes
  have hr := B.returns
  have hts := atoms_spec (ws := wsX2_looks) B.pre
  have hown : s.vm.findClass RX2 = some m.cls := findClass_of_methodNamed B.named
  have hlocks := B.notSynchronized
  have hiX2 : ∀ w ∈ wsX20, w ∈ wsX2_looks := by decide +kernel
  have hiX0 : ∀ w ∈ wsX00, w ∈ wsX2_looks := by decide +kernel
  have hl := lv_entry ([.ref (ad 0), .int (nI a), .int (nI b)]) (n := 3) (Nat.le_of_ble_eq_true rfl)
  rw [lg_entry_eq]
  generalize (lg_sl ([.ref (ad 0), .int (nI a), .int (nI b)]) ++ List.replicate (3 - (lg_sl ([.ref (ad 0), .int (nI a), .int (nI b)])).length) Slot.unset).toArray = ls at hl ⊢
  have hl : lv_has ls 3 [(0, .ref (ad 0)), (1, .int (nI a)), (2, .int (nI b))] := hl
  refine lv_aload_n hx hb dX2_looks_0 rfl (lv_at hl 0 rfl) ?_
  refine lv_iload_n hx hb dX2_looks_1 rfl (lv_at hl 1 rfl) ?_
  refine va_callq (va_runV (As := [.int (nI a)]) (rest := []) ⟨hx, hb, hml, hown, hts⟩ (c_X2_findCupboard l G cy ad n k v o hn hk _ a h_a) (cwV 1 hts gX2_looks_X2_findCupboard rfl rfl rfl (by decide +kernel) ⟨Nat.le_of_ble_eq_true rfl, Nat.le_of_ble_eq_true rfl⟩) (mP_V (r := (RX2, TX2, 5)) hN hE S_0 rfl) rfl rfl hl.1 rfl (lv_room (Nat.le_of_ble_eq_true rfl)) dX2_looks_2 ⟨Nat.le_of_ble_eq_true rfl, Nat.le_of_ble_eq_true rfl⟩) hE.2.2.2 (fun q _ h => mE_A hE q h) (mE_A hE) (fun r uq tq H locs ht hvm hw hB hz1 hk1 hS => ?_)
  obtain ⟨rfl, rfl⟩ := hw
  have hE : mE G (mA ad (Sy cy ad n k v o) s.heap.size) s.heap ad (Sy cy ad n k v o) H locs := mE_call hE hB ht hS
  refine va_getN (D := G) (ci := 0) (v := .ref (ad (300 + a))) (C := RX0) (T := TX0) (N := 3) (host := RX2) hx hb hts hiX0 hown hN.1 (mE_P1 hE (S_ce hn h_a rfl)) 0 rfl rfl 1 (by decide) (va_Nw.use rfl (hN.2.1 (.fieldLinkNest RX2 55 RX0 "sums" "[I" RX2) (by decide +kernel))) (fun _ h9 => h9) rfl dX2_looks_5 ?_
  refine lv_aload_n hx hb dX2_looks_8 rfl (lv_at hl 0 rfl) ?_
  refine lv_iload_n hx hb dX2_looks_9 rfl (lv_at hl 2 rfl) ?_
  refine va_callq (va_runV (As := [.int (nI b)]) (rest := [.ref (ad (300 + a))]) ⟨hx, hb, hml, hown, hts⟩ (c_X2_findCupboard l G cy ad n k v o hn hk _ b h_b) (cwV 1 hts gX2_looks_X2_findCupboard rfl rfl rfl (by decide +kernel) ⟨Nat.le_of_ble_eq_true rfl, Nat.le_of_ble_eq_true rfl⟩) (mP_V (r := (RX2, TX2, 5)) hN hE S_0 rfl) rfl rfl hl.1 rfl (lv_room (Nat.le_of_ble_eq_true rfl)) dX2_looks_10 ⟨Nat.le_of_ble_eq_true rfl, Nat.le_of_ble_eq_true rfl⟩) hE.2.2.2 (fun q _ h => mE_A hE q h) (mE_A hE) (fun r uq tq H locs ht hvm hw hB hz1 hk1 hS => ?_)
  obtain ⟨rfl, rfl⟩ := hw
  have hE : mE G (mA ad (Sy cy ad n k v o) s.heap.size) s.heap ad (Sy cy ad n k v o) H locs := mE_call hE hB ht hS
  refine va_getN (D := G) (ci := 0) (v := .ref (ad (300 + b))) (C := RX0) (T := TX0) (N := 3) (host := RX2) hx hb hts hiX0 hown hN.1 (mE_P1 hE (S_ce hn h_b rfl)) 0 rfl rfl 1 (by decide) (va_Nw.use rfl (hN.2.1 (.fieldLinkNest RX2 55 RX0 "sums" "[I" RX2) (by decide +kernel))) (fun _ h9 => h9) rfl dX2_looks_13 ?_
  refine va_calli (va_runS (As := [.ref (ad (300 + a)), .ref (ad (300 + b))]) (rest := []) ⟨hx, hb, hml, hown, hts⟩ (c_X2_placesLookedAt l G cy ad n k v o hn hk _ (300 + a) (300 + b) (fun g => sy_s hn h_a) (fun g => sy_s hn h_b)) (va_cwS 2 hts gX2_looks_X2_placesLookedAt rfl rfl rfl (by decide +kernel) ⟨Nat.le_of_ble_eq_true rfl, Nat.le_of_ble_eq_true rfl⟩) (mP_S hN hE) rfl rfl hl.1 rfl (lv_room (Nat.le_of_ble_eq_true rfl)) dX2_looks_16 ⟨Nat.le_of_ble_eq_true rfl, Nat.le_of_ble_eq_true rfl⟩) hE.2.2.2 (fun q _ h => mE_A hE q h) (mE_A hE) (fun r uq tq H locs ht hvm hw hB hz1 hk1 hS => ?_)
  obtain ⟨rfl, rfl⟩ := hw
  have hE : mE G (mA ad (Sy cy ad n k v o) s.heap.size) s.heap ad (Sy cy ad n k v o) H locs := mE_call hE hB ht hS
  refine va_calli (va_runS (As := [.int (nI (mLook (v (300 + a)) (v (300 + b)) 15))]) (rest := []) ⟨hx, hb, hml, hown, hts⟩ (c_J6_bitCount l G cy ad (Sy cy ad n k v o) _ (nI (mLook (v (300 + a)) (v (300 + b)) 15))) (va_cwS 1 hts gX2_looks_J6_bitCount_0f7a4 rfl rfl rfl (by decide +kernel) ⟨Nat.le_of_ble_eq_true rfl, Nat.le_of_ble_eq_true rfl⟩) (mP_S hN hE) rfl rfl hl.1 rfl (lv_room (Nat.le_of_ble_eq_true rfl)) dX2_looks_19 ⟨Nat.le_of_ble_eq_true rfl, Nat.le_of_ble_eq_true rfl⟩) hE.2.2.2 (fun q _ h => mE_A hE q h) (mE_A hE) (fun r uq tq H locs ht hvm hw hB hz1 hk1 hS => ?_)
  obtain ⟨rfl, rfl⟩ := hw
  have hE : mE G (mA ad (Sy cy ad n k v o) s.heap.size) s.heap ad (Sy cy ad n k v o) H locs := mE_call hE hB ht hS
  exact mx_iret hx hb hr hE hlocks ⟨rfl, rfl⟩ dX2_looks_22
