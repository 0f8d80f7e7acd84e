set_option maxHeartbeats 4000000 in
set_option maxRecDepth 100000 in
/-- the sum of a thing in a drawer -/
theorem c_X2_sumOfThing (l : Launch) (G : va_G) (cy : Nat → ClassId) (ad : Nat → Nat) (M : mC) (sz : Nat) (x t : Int32) : mMi l yX2_sumOfThing wsX2_sumOfThing ({ frames := 7, cells := 0, slots := 0, locals := 100 }) G cy ad (M) sz [.int x, .int t] 0 0 (fun (r : Int32) u => r = mLeaf x t ∧ u = (ad, M)) := by
  refine Met.ofW (cc := cX2_sumOfThing) (maxL := 2) (ret := (some .int)) (by decide) rfl ?_
  intro p e s m args below meth c s₁ B hml hv
  obtain ⟨rfl, hv⟩ := hv
  have hsz := hv.1
  subst hsz
  have hN := hv.2.2
  have hE := mP_E hv
  have hx := B.exec
  have hb := B.bytes
  have hr := B.returns
  have hts := atoms_spec (ws := wsX2_sumOfThing) B.pre
  have hown : s.vm.findClass RX2 = some m.cls := findClass_of_methodNamed B.named
  have hlocks := B.notSynchronized
  have hl := lv_entry ([.int x, .int t]) (n := 2) (Nat.le_of_ble_eq_true rfl)
  rw [lg_entry_eq]
  generalize (lg_sl ([.int x, .int t]) ++ List.replicate (2 - (lg_sl ([.int x, .int t])).length) Slot.unset).toArray = ls at hl ⊢
  have hl : lv_has ls 2 [(0, .int x), (1, .int t)] := hl
  refine lv_bipush (v := nI 37) hx hb dX2_sumOfThing_0 (by decide) ?_
  refine lv_iload_n hx hb dX2_sumOfThing_2 rfl (lv_at hl 1 rfl) ?_
  refine mv_imul (z := (nI 37) * t) hx hb rfl dX2_sumOfThing_3 ?_
  refine lv_bipush (v := nI 101) hx hb dX2_sumOfThing_4 (by decide) ?_
  refine lv_iload_n hx hb dX2_sumOfThing_6 rfl (lv_at hl 0 rfl) ?_
  refine lv_iconst (v := nI 1) hx hb dX2_sumOfThing_7 (by decide) ?_
  refine mv_iadd (z := x + (nI 1)) hx hb rfl dX2_sumOfThing_8 ?_
  refine mv_imul (z := (nI 101) * (x + (nI 1))) hx hb rfl dX2_sumOfThing_9 ?_
  refine mv_iadd (z := ((nI 37) * t) + ((nI 101) * (x + (nI 1)))) hx hb rfl dX2_sumOfThing_10 ?_
  refine lv_sipush (v := nI 997) hx hb dX2_sumOfThing_11 (by decide) ?_
  refine mv_irem (z := mMod (((nI 37) * t) + ((nI 101) * (x + (nI 1))))) hx hb (by decide) rfl dX2_sumOfThing_14 ?_
  exact mx_iret hx hb hr hE hlocks ⟨rfl, rfl⟩ dX2_sumOfThing_15

set_option maxHeartbeats 4000000 in
set_option maxRecDepth 100000 in
/-- the sum over two sums -/
theorem c_X2_sumOfSums (l : Launch) (G : va_G) (cy : Nat → ClassId) (ad : Nat → Nat) (M : mC) (sz : Nat) (x y z : Int32) : mMi l yX2_sumOfSums wsX2_sumOfSums ({ frames := 7, cells := 0, slots := 0, locals := 100 }) G cy ad (M) sz [.int x, .int y, .int z] 0 0 (fun (r : Int32) u => r = mJoin x y z ∧ u = (ad, M)) := by
  refine Met.ofW (cc := cX2_sumOfSums) (maxL := 3) (ret := (some .int)) (by decide) rfl ?_
  intro p e s m args below meth c s₁ B hml hv
  obtain ⟨rfl, hv⟩ := hv
  have hsz := hv.1
  subst hsz
  have hN := hv.2.2
  have hE := mP_E hv
  have hx := B.exec
  have hb := B.bytes
  have hr := B.returns
  have hts := atoms_spec (ws := wsX2_sumOfSums) B.pre
  have hown : s.vm.findClass RX2 = some m.cls := findClass_of_methodNamed B.named
  have hlocks := B.notSynchronized
  have hl := lv_entry ([.int x, .int y, .int z]) (n := 3) (Nat.le_of_ble_eq_true rfl)
  rw [lg_entry_eq]
  generalize (lg_sl ([.int x, .int y, .int z]) ++ List.replicate (3 - (lg_sl ([.int x, .int y, .int z])).length) Slot.unset).toArray = ls at hl ⊢
  have hl : lv_has ls 3 [(0, .int x), (1, .int y), (2, .int z)] := hl
  refine lv_bipush (v := nI 61) hx hb dX2_sumOfSums_0 (by decide) ?_
  refine lv_iload_n hx hb dX2_sumOfSums_2 rfl (lv_at hl 0 rfl) ?_
  refine mv_imul (z := (nI 61) * x) hx hb rfl dX2_sumOfSums_3 ?_
  refine lv_bipush (v := nI 89) hx hb dX2_sumOfSums_4 (by decide) ?_
  refine lv_iload_n hx hb dX2_sumOfSums_6 rfl (lv_at hl 1 rfl) ?_
  refine mv_imul (z := (nI 89) * y) hx hb rfl dX2_sumOfSums_7 ?_
  refine mv_iadd (z := ((nI 61) * x) + ((nI 89) * y)) hx hb rfl dX2_sumOfSums_8 ?_
  refine lv_iload_n hx hb dX2_sumOfSums_9 rfl (lv_at hl 2 rfl) ?_
  refine mv_iadd (z := (((nI 61) * x) + ((nI 89) * y)) + z) hx hb rfl dX2_sumOfSums_10 ?_
  refine lv_sipush (v := nI 997) hx hb dX2_sumOfSums_11 (by decide) ?_
  refine mv_irem (z := mMod ((((nI 61) * x) + ((nI 89) * y)) + z)) hx hb (by decide) rfl dX2_sumOfSums_14 ?_
  exact mx_iret hx hb hr hE hlocks ⟨rfl, rfl⟩ dX2_sumOfSums_15

set_option maxHeartbeats 4000000 in
set_option maxRecDepth 100000 in
/-- the sum of a thing in a drawer -/
theorem c_X3_leaf (l : Launch) (G : va_G) (cy : Nat → ClassId) (ad : Nat → Nat) (M : mC) (sz : Nat) (x t : Int32) : mMi l yX3_leaf wsX3_leaf ({ frames := 7, cells := 0, slots := 0, locals := 100 }) G cy ad (M) sz [.int x, .int t] 0 0 (fun (r : Int32) u => r = mLeaf x t ∧ u = (ad, M)) := by
  refine Met.ofW (cc := cX3_leaf) (maxL := 2) (ret := (some .int)) (by decide) rfl ?_
  intro p e s m args below meth c s₁ B hml hv
  obtain ⟨rfl, hv⟩ := hv
  have hsz := hv.1
  subst hsz
  have hN := hv.2.2
  have hE := mP_E hv
  have hx := B.exec
  have hb := B.bytes
  have hr := B.returns
  have hts := atoms_spec (ws := wsX3_leaf) B.pre
  have hown : s.vm.findClass RX3 = some m.cls := findClass_of_methodNamed B.named
  have hlocks := B.notSynchronized
  have hl := lv_entry ([.int x, .int t]) (n := 2) (Nat.le_of_ble_eq_true rfl)
  rw [lg_entry_eq]
  generalize (lg_sl ([.int x, .int t]) ++ List.replicate (2 - (lg_sl ([.int x, .int t])).length) Slot.unset).toArray = ls at hl ⊢
  have hl : lv_has ls 2 [(0, .int x), (1, .int t)] := hl
  refine lv_bipush (v := nI 37) hx hb dX3_leaf_0 (by decide) ?_
  refine lv_iload_n hx hb dX3_leaf_2 rfl (lv_at hl 1 rfl) ?_
  refine mv_imul (z := (nI 37) * t) hx hb rfl dX3_leaf_3 ?_
  refine lv_bipush (v := nI 101) hx hb dX3_leaf_4 (by decide) ?_
  refine lv_iload_n hx hb dX3_leaf_6 rfl (lv_at hl 0 rfl) ?_
  refine lv_iconst (v := nI 1) hx hb dX3_leaf_7 (by decide) ?_
  refine mv_iadd (z := x + (nI 1)) hx hb rfl dX3_leaf_8 ?_
  refine mv_imul (z := (nI 101) * (x + (nI 1))) hx hb rfl dX3_leaf_9 ?_
  refine mv_iadd (z := ((nI 37) * t) + ((nI 101) * (x + (nI 1)))) hx hb rfl dX3_leaf_10 ?_
  refine lv_sipush (v := nI 997) hx hb dX3_leaf_11 (by decide) ?_
  refine mv_irem (z := mMod (((nI 37) * t) + ((nI 101) * (x + (nI 1))))) hx hb (by decide) rfl dX3_leaf_14 ?_
  exact mx_iret hx hb hr hE hlocks ⟨rfl, rfl⟩ dX3_leaf_15

set_option maxHeartbeats 4000000 in
set_option maxRecDepth 100000 in
/-- the sum over two sums -/
theorem c_X3_join (l : Launch) (G : va_G) (cy : Nat → ClassId) (ad : Nat → Nat) (M : mC) (sz : Nat) (x y z : Int32) : mMi l yX3_join wsX3_join ({ frames := 7, cells := 0, slots := 0, locals := 100 }) G cy ad (M) sz [.int x, .int y, .int z] 0 0 (fun (r : Int32) u => r = mJoin x y z ∧ u = (ad, M)) := by
  refine Met.ofW (cc := cX3_join) (maxL := 3) (ret := (some .int)) (by decide) rfl ?_
  intro p e s m args below meth c s₁ B hml hv
  obtain ⟨rfl, hv⟩ := hv
  have hsz := hv.1
  subst hsz
  have hN := hv.2.2
  have hE := mP_E hv
  have hx := B.exec
  have hb := B.bytes
  have hr := B.returns
  have hts := atoms_spec (ws := wsX3_join) B.pre
  have hown : s.vm.findClass RX3 = some m.cls := findClass_of_methodNamed B.named
  have hlocks := B.notSynchronized
  have hl := lv_entry ([.int x, .int y, .int z]) (n := 3) (Nat.le_of_ble_eq_true rfl)
  rw [lg_entry_eq]
  generalize (lg_sl ([.int x, .int y, .int z]) ++ List.replicate (3 - (lg_sl ([.int x, .int y, .int z])).length) Slot.unset).toArray = ls at hl ⊢
  have hl : lv_has ls 3 [(0, .int x), (1, .int y), (2, .int z)] := hl
  refine lv_bipush (v := nI 61) hx hb dX3_join_0 (by decide) ?_
  refine lv_iload_n hx hb dX3_join_2 rfl (lv_at hl 0 rfl) ?_
  refine mv_imul (z := (nI 61) * x) hx hb rfl dX3_join_3 ?_
  refine lv_bipush (v := nI 89) hx hb dX3_join_4 (by decide) ?_
  refine lv_iload_n hx hb dX3_join_6 rfl (lv_at hl 1 rfl) ?_
  refine mv_imul (z := (nI 89) * y) hx hb rfl dX3_join_7 ?_
  refine mv_iadd (z := ((nI 61) * x) + ((nI 89) * y)) hx hb rfl dX3_join_8 ?_
  refine lv_iload_n hx hb dX3_join_9 rfl (lv_at hl 2 rfl) ?_
  refine mv_iadd (z := (((nI 61) * x) + ((nI 89) * y)) + z) hx hb rfl dX3_join_10 ?_
  refine lv_sipush (v := nI 997) hx hb dX3_join_11 (by decide) ?_
  refine mv_irem (z := mMod ((((nI 61) * x) + ((nI 89) * y)) + z)) hx hb (by decide) rfl dX3_join_14 ?_
  exact mx_iret hx hb hr hE hlocks ⟨rfl, rfl⟩ dX3_join_15

set_option maxHeartbeats 4000000 in
set_option maxRecDepth 100000 in
/-- the root of a cupboard -/
theorem c_X0_root (l : Launch) (G : va_G) (cy : Nat → ClassId) (ad : Nat → Nat) (n k : Nat) (v : Nat → Nat → Int32) (o : Int64) (hn : n ≤ 6) (hk : k ≤ 20) (sz : Nat) (i : Nat) (h_i : i < n) : mMi l yX0_root wsX0_root ({ frames := 7, cells := 0, slots := 0, locals := 100 }) G cy ad (Sy cy ad n k v o) sz [.ref (ad (100 + i))] 0 0 (fun (r : Int32) u => r = v (300 + i) 1 ∧ u = (ad, Sy cy ad n k v o)) := by
  refine Met.ofW (cc := cX0_root) (maxL := 1) (ret := (some .int)) (by decide) rfl ?_
  intro p e s m args below meth c s₁ B hml hv
  obtain ⟨rfl, hv⟩ := hv
  have hsz := hv.1
  subst hsz
  have hN := hv.2.2
  have hE := mP_E hv
  have hx := B.exec
  have hb := B.bytes
  have hr := B.returns
  have hts := atoms_spec (ws := wsX0_root) B.pre
  have hown : s.vm.findClass RX0 = some m.cls := findClass_of_methodNamed B.named
  have hlocks := B.notSynchronized
  have hiX0 : ∀ w ∈ wsX00, w ∈ wsX0_root := by decide +kernel
  have hl := lv_entry ([.ref (ad (100 + i))]) (n := 1) (Nat.le_of_ble_eq_true rfl)
  rw [lg_entry_eq]
  generalize (lg_sl ([.ref (ad (100 + i))]) ++ List.replicate (1 - (lg_sl ([.ref (ad (100 + i))])).length) Slot.unset).toArray = ls at hl ⊢
  have hl : lv_has ls 1 [(0, .ref (ad (100 + i)))] := hl
  refine lv_aload_n hx hb dX0_root_0 rfl (lv_at hl 0 rfl) ?_
  refine va_get (D := G) (ci := 0) (v := .ref (ad (300 + i))) (C := RX0) (T := TX0) (N := 3) hx hb hts hiX0 hown hN.1 (mE_P1 hE (S_c hn h_i)) 0 rfl rfl 1 (by decide) (hts (.fieldLink RX0 15 "SealedCupboards$Cupboard" "sums" "[I") (by decide +kernel)) (fun _ h9 => h9) rfl dX0_root_1 ?_
  refine lv_iconst (v := nI 1) hx hb dX0_root_4 (by decide) ?_
  refine mx_iald hx hb hN hE (S_s hn h_i) (j := 1) rfl (by omega) (by decide) dX0_root_5 ?_
  exact mx_iret hx hb hr hE hlocks ⟨rfl, rfl⟩ dX0_root_6
