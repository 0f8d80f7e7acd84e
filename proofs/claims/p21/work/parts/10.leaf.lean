set_option maxHeartbeats 4000000 in
set_option maxRecDepth 100000 in
/-- the sum of a thing in a drawer -/
theorem c_X2_sumOfThing (l : Launch) (G : va_G) (cy : Nat → ClassId) (ad : Nat → Nat) (M : mC) (sz : Nat) (x t : Int32) : mMi l yX2_sumOfThing wsX2_sumOfThing ({ frames := 7, cells := 0, slots := 0, locals := 100 }) G cy ad (M) sz [.int x, .int t] 0 0 (fun (r : Int32) u => r = mLeaf x t ∧ u = (ad, M)) := by
  refine Met.ofW (cc := cX2_sumOfThing) (maxL := 2) (ret := (some .int)) (by decide) rfl ?_
  intro p e s m args below meth c s₁ B hml hv
  obtain ⟨rfl, hv⟩ := hv
  have hsz := hv.1
  subst hsz
  have hN := hv.2.2
  have hE := mP_E hv
  have hx := B.exec
  have hb := B.bytes
  have hr := B.returns
  have hts := atoms_spec (ws := wsX2_sumOfThing) B.pre
  have hown : s.vm.findClass RX2 = some m.cls := findClass_of_methodNamed B.named
  have hlocks := B.notSynchronized
  have hl := lv_entry ([.int x, .int t]) (n := 2) (Nat.le_of_ble_eq_true rfl)
  rw [lg_entry_eq]
  generalize (lg_sl ([.int x, .int t]) ++ List.replicate (2 - (lg_sl ([.int x, .int t])).length) Slot.unset).toArray = ls at hl ⊢
  have hl : lv_has ls 2 [(0, .int x), (1, .int t)] := hl
  refine lv_bipush (v := nI 37) hx hb dX2_sumOfThing_0 (by decide) ?_
  refine lv_iload_n hx hb dX2_sumOfThing_2 rfl (lv_at hl 1 rfl) ?_
  refine mv_imul (z := (nI 37) * t) hx hb rfl dX2_sumOfThing_3 ?_
  refine lv_bipush (v := nI 101) hx hb dX2_sumOfThing_4 (by decide) ?_
  refine lv_iload_n hx hb dX2_sumOfThing_6 rfl (lv_at hl 0 rfl) ?_
  refine lv_iconst (v := nI 1) hx hb dX2_sumOfThing_7 (by decide) ?_
  refine mv_iadd (z := x + (nI 1)) hx hb rfl dX2_sumOfThing_8 ?_
  refine mv_imul (z := (nI 101) * (x + (nI 1))) hx hb rfl dX2_sumOfThing_9 ?_
  refine mv_iadd (z := ((nI 37) * t) + ((nI 101) * (x + (nI 1)))) hx hb rfl dX2_sumOfThing_10 ?_
  refine lv_sipush (v := nI 997) hx hb dX2_sumOfThing_11 (by decide) ?_
  refine mv_irem (z := mMod (((nI 37) * t) + ((nI 101) * (x + (nI 1))))) hx hb (by decide) rfl dX2_sumOfThing_14 ?_
  exact mx_iret hx hb hr hE hlocks ⟨rfl, rfl⟩ dX2_sumOfThing_15

set_option maxHeartbeats 4000000 in
set_option maxRecDepth 100000 in
/-- the sum over two sums -/
theorem c_X2_sumOfSums (l : Launch) (G : va_G) (cy : Nat → ClassId) (ad : Nat → Nat) (M : mC) (sz : Nat) (x y z : Int32) : mMi l yX2_sumOfSums wsX2_sumOfSums ({ frames := 7, cells := 0, slots := 0, locals := 100 }) G cy ad (M) sz [.int x, .int y, .int z] 0 0 (fun (r : Int32) u => r = mJoin x y z ∧ u = (ad, M)) := by
  refine Met.ofW (cc := cX2_sumOfSums) (maxL := 3) (ret := (some .int)) (by decide) rfl ?_
  intro p e s m args below meth c s₁ B hml hv
  obtain ⟨rfl, hv⟩ := hv
  have hsz := hv.1
  subst hsz
  have hN := hv.2.2
  have hE := mP_E hv
  have hx := B.exec
  have hb := B.bytes
  have hr := B.returns
  have hts := atoms_spec (ws := wsX2_sumOfSums) B.pre
  have hown : s.vm.findClass RX2 = some m.cls := findClass_of_methodNamed B.named
  have hlocks := B.notSynchronized
  have hl := lv_entry ([.int x, .int y, .int z]) (n := 3) (Nat.le_of_ble_eq_true rfl)
  rw [lg_entry_eq]
  generalize (lg_sl ([.int x, .int y, .int z]) ++ List.replicate (3 - (lg_sl ([.int x, .int y, .int z])).length) Slot.unset).toArray = ls at hl ⊢
  have hl : lv_has ls 3 [(0, .int x), (1, .int y), (2, .int z)] := hl
  refine lv_bipush (v := nI 61) hx hb dX2_sumOfSums_0 (by decide) ?_
  refine lv_iload_n hx hb dX2_sumOfSums_2 rfl (lv_at hl 0 rfl) ?_
  refine mv_imul (z := (nI 61) * x) hx hb rfl dX2_sumOfSums_3 ?_
  refine lv_bipush (v := nI 89) hx hb dX2_sumOfSums_4 (by decide) ?_
  refine lv_iload_n hx hb dX2_sumOfSums_6 rfl (lv_at hl 1 rfl) ?_
  refine mv_imul (z := (nI 89) * y) hx hb rfl dX2_sumOfSums_7 ?_
  refine mv_iadd (z := ((nI 61) * x) + ((nI 89) * y)) hx hb rfl dX2_sumOfSums_8 ?_
  refine lv_iload_n hx hb dX2_sumOfSums_9 rfl (lv_at hl 2 rfl) ?_
  refine mv_iadd (z := (((nI 61) * x) + ((nI 89) * y)) + z) hx hb rfl dX2_sumOfSums_10 ?_
  refine lv_sipush (v := nI 997) hx hb dX2_sumOfSums_11 (by decide) ?_
  refine mv_irem (z := mMod ((((nI 61) * x) + ((nI 89) * y)) + z)) hx hb (by decide) rfl dX2_sumOfSums_14 ?_
  exact mx_iret hx hb hr hE hlocks ⟨rfl, rfl⟩ dX2_sumOfSums_15

set_option maxHeartbeats 4000000 in
set_option maxRecDepth 100000 in
/-- the root of a cupboard -/
theorem c_X0_root (l : Launch) (G : va_G) (cy : Nat → ClassId) (ad : Nat → Nat) (n k : Nat) (v : Nat → Nat → Int32) (o : mC) (hn : n ≤ 6) (hk : k ≤ 20) (sz : Nat) (i : Nat) (h_i : i < n) : mMi l yX0_root wsX0_root ({ frames := 7, cells := 0, slots := 0, locals := 100 }) G cy ad (Sy cy ad n k v o) sz [.ref (ad (100 + i))] 0 0 (fun (r : Int32) u => r = v (300 + i) 1 ∧ u = (ad, Sy cy ad n k v o)) := by
  refine Met.ofW (cc := cX0_root) (maxL := 1) (ret := (some .int)) (by decide) rfl ?_
  intro p e s m args below meth c s₁ B hml hv
  obtain ⟨rfl, hv⟩ := hv
  have hsz := hv.1
  subst hsz
  have hN := hv.2.2
  have hE := mP_E hv
  have hx := B.exec
  have hb := B.bytes
  have hr := B.returns
  have hts := atoms_spec (ws := wsX0_root) B.pre
  have hown : s.vm.findClass RX0 = some m.cls := findClass_of_methodNamed B.named
  have hlocks := B.notSynchronized
  have hiX0 : ∀ w ∈ wsX00, w ∈ wsX0_root := by decide +kernel
  have hl := lv_entry ([.ref (ad (100 + i))]) (n := 1) (Nat.le_of_ble_eq_true rfl)
  rw [lg_entry_eq]
  generalize (lg_sl ([.ref (ad (100 + i))]) ++ List.replicate (1 - (lg_sl ([.ref (ad (100 + i))])).length) Slot.unset).toArray = ls at hl ⊢
  have hl : lv_has ls 1 [(0, .ref (ad (100 + i)))] := hl
  refine lv_aload_n hx hb dX0_root_0 rfl (lv_at hl 0 rfl) ?_
  refine va_get (D := G) (ci := 0) (v := .ref (ad (300 + i))) (C := RX0) (T := TX0) (N := 3) hx hb hts hiX0 hown hN.1 (mE_P1 hE (S_ce hn h_i rfl)) 0 rfl rfl 1 (by decide) (hts (.fieldLink RX0 15 "SealedCupboards$Cupboard" "sums" "[I") (by decide +kernel)) (fun _ h9 => h9) rfl dX0_root_1 ?_
  refine lv_iconst (v := nI 1) hx hb dX0_root_4 (by decide) ?_
  refine mx_iald hx hb hN hE (S_se hn h_i rfl) (j := 1) rfl (by omega) (by decide) dX0_root_5 ?_
  exact mx_iret hx hb hr hE hlocks ⟨rfl, rfl⟩ dX0_root_6

set_option maxHeartbeats 4000000 in
set_option maxRecDepth 100000 in
/-- whether a bit is set -/
theorem c_X2_hasBit (l : Launch) (G : va_G) (cy : Nat → ClassId) (ad : Nat → Nat) (M : mC) (sz : Nat) (z j : Nat) (hz : z < 2 ^ 32) (hj : j < 32) : mMi l yX2_hasBit wsX2_hasBit ({ frames := 7, cells := 0, slots := 0, locals := 100 }) G cy ad (M) sz [.int (nI z), .int (nI j)] 0 0 (fun (r : Int32) u => r = mb (z / 2 ^ j % 2 = 1) ∧ u = (ad, M)) := by
  refine Met.ofW (cc := cX2_hasBit) (maxL := 2) (ret := (some .boolean)) (by decide) rfl ?_
  intro p e s m args below meth c s₁ B hml hv
  obtain ⟨rfl, hv⟩ := hv
  have hsz := hv.1
  subst hsz
  have hN := hv.2.2
  have hE := mP_E hv
  have hx := B.exec
  have hb := B.bytes
  have hr := B.returns
  have hts := atoms_spec (ws := wsX2_hasBit) B.pre
  have hown : s.vm.findClass RX2 = some m.cls := findClass_of_methodNamed B.named
  have hlocks := B.notSynchronized
  have hl := lv_entry ([.int (nI z), .int (nI j)]) (n := 2) (Nat.le_of_ble_eq_true rfl)
  rw [lg_entry_eq]
  generalize (lg_sl ([.int (nI z), .int (nI j)]) ++ List.replicate (2 - (lg_sl ([.int (nI z), .int (nI j)])).length) Slot.unset).toArray = ls at hl ⊢
  have hl : lv_has ls 2 [(0, .int (nI z)), (1, .int (nI j))] := hl
  refine lv_iload_n hx hb dX2_hasBit_0 rfl (lv_at hl 0 rfl) ?_
  refine lv_iload_n hx hb dX2_hasBit_1 rfl (lv_at hl 1 rfl) ?_
  refine lv_iushr (v := nI (z / 2 ^ j)) hx hb dX2_hasBit_2 (pk_ushrN hz _ _ (mu_u j hj)) ?_
  refine lv_iconst (v := nI 1) hx hb dX2_hasBit_3 (by decide) ?_
  refine mv_iand (z := nI (z / 2 ^ j % 2)) hx hb (pk_andN (Nat.lt_of_le_of_lt (Nat.div_le_self _ _) hz) 1 (by decide)) dX2_hasBit_4 ?_
  refine lv_iconst (v := nI 1) hx hb dX2_hasBit_5 (by decide) ?_
  refine mv_ne (tgt := 13) hx hb (by omega) (by omega) dX2_hasBit_6 (by decide) (fun c1 => ?_) (fun c1 => ?_)
  · skip
    refine lv_iconst (v := nI 0) hx hb dX2_hasBit_13 (by decide) ?_
    exact mx_zret hx hb hr rfl hE hlocks ⟨(mb_f (by omega)).symm, rfl⟩ dX2_hasBit_14
  · skip
    refine lv_iconst (v := nI 1) hx hb dX2_hasBit_9 (by decide) ?_
    refine lv_goto (tgt := 14) hx hb dX2_hasBit_10 (by decide) ?_
    exact mx_zret hx hb hr rfl hE hlocks ⟨(mb_t (by omega)).symm, rfl⟩ dX2_hasBit_14

set_option maxHeartbeats 4000000 in
set_option maxRecDepth 100000 in
/-- the sum above a place -/
theorem c_X2_sumAbove (l : Launch) (G : va_G) (cy : Nat → ClassId) (ad : Nat → Nat) (M : mC) (sz : Nat) (q : Nat) (x y : Int32) (hq : q < 32) : mMi l yX2_sumAbove wsX2_sumAbove ({ frames := 8, cells := 0, slots := 0, locals := 140 }) G cy ad (M) sz [.int (nI q), .int x, .int y] 0 0 (fun (r : Int32) u => r = mAbove q x y ∧ u = (ad, M)) := by
  refine Met.ofW (cc := cX2_sumAbove) (maxL := 4) (ret := (some .int)) (by decide) rfl ?_
  intro p e s m args below meth c s₁ B hml hv
  obtain ⟨rfl, hv⟩ := hv
  have hsz := hv.1
  subst hsz
  have hN := hv.2.2
  have hE := mP_E hv
  have hx := B.exec
  have hb := B.bytes
  have hr := B.returns
  have hts := atoms_spec (ws := wsX2_sumAbove) B.pre
  have hown : s.vm.findClass RX2 = some m.cls := findClass_of_methodNamed B.named
  have hlocks := B.notSynchronized
  have hl := lv_entry ([.int (nI q), .int x, .int y]) (n := 4) (Nat.le_of_ble_eq_true rfl)
  rw [lg_entry_eq]
  generalize (lg_sl ([.int (nI q), .int x, .int y]) ++ List.replicate (4 - (lg_sl ([.int (nI q), .int x, .int y])).length) Slot.unset).toArray = ls at hl ⊢
  have hl : lv_has ls 4 [(0, .int (nI q)), (1, .int x), (2, .int y)] := hl
  refine lv_iload_n hx hb dX2_sumAbove_0 rfl (lv_at hl 0 rfl) ?_
  refine lv_iconst (v := nI 2) hx hb dX2_sumAbove_1 (by decide) ?_
  refine mv_irem (z := nI (q % 2)) hx hb (by decide) (pk_rem (by omega) (by omega) (by omega)) dX2_sumAbove_2 ?_
  refine lv_if_ne (tgt := 10) hx hb dX2_sumAbove_3 (by decide) (fun c1 => ?_) (fun c1 => ?_)
  · skip
    have c1 : ¬ (q % 2) = 0 := fun h9 => c1 ((mz_eq (by omega)).mpr h9)
    refine lv_iconst (v := nI 0) hx hb dX2_sumAbove_10 (by decide) ?_
    refine lv_istore_n (lv' := [(3, .int (nI 0)), (0, .int (nI q)), (1, .int x), (2, .int y)]) hx hb dX2_sumAbove_11 rfl hl (by decide) rfl (fun ls hl => ?_)
    refine lv_iload_n hx hb dX2_sumAbove_12 rfl (lv_at hl 0 rfl) ?_
    refine lv_if_eq (tgt := 27) hx hb dX2_sumAbove_13 (by decide) (fun c2 => ?_) (fun c2 => ?_)
    · skip
      have c2 := (mz_eq (by omega)).mp c2
      refine lv_iload_n hx hb dX2_sumAbove_27 rfl (lv_at hl 3 rfl) ?_
      refine lv_iload_n hx hb dX2_sumAbove_28 rfl (lv_at hl 2 rfl) ?_
      refine lv_iload_n hx hb dX2_sumAbove_29 rfl (lv_at hl 1 rfl) ?_
      refine lv_iconst (v := nI 2) hx hb dX2_sumAbove_30 (by decide) ?_
      refine mv_idiv (z := nI (q / 2)) hx hb (by decide) (pk_div (by omega) (by omega) (by omega)) dX2_sumAbove_31 ?_
      refine va_calli (va_runS (As := [.int y, .int x, .int (nI (q / 2))]) (rest := []) ⟨hx, hb, hml, hown, hts⟩ (c_X2_sumOfSums l G cy ad M _ y x (nI (q / 2))) (va_cwS 3 hts gX2_sumAbove_X2_sumOfSums rfl rfl rfl (by decide +kernel) ⟨Nat.le_of_ble_eq_true rfl, Nat.le_of_ble_eq_true rfl⟩) (mP_S hN hE) rfl rfl hl.1 rfl (lv_room (Nat.le_of_ble_eq_true rfl)) dX2_sumAbove_32 ⟨Nat.le_of_ble_eq_true rfl, Nat.le_of_ble_eq_true rfl⟩) hE.2.2.2 (fun q _ h => mE_A hE q h) (mE_A hE) (fun r u t H locs ht hvm hw hB hz1 hk1 hS => ?_)
      obtain ⟨rfl, rfl⟩ := hw
      have hE : mE G _ s.heap ad (M) H locs := mE_call hE hB ht hS
      exact mx_iret hx hb hr hE hlocks ⟨(if_neg (by omega)).symm, rfl⟩ dX2_sumAbove_35
    · skip
      have c2 : ¬ 0 = 0 := fun h9 => c2 ((mz_eq (by omega)).mpr h9)
      exfalso; omega
  · skip
    have c1 := (mz_eq (by omega)).mp c1
    refine lv_iconst (v := nI 1) hx hb dX2_sumAbove_6 (by decide) ?_
    refine lv_goto (tgt := 11) hx hb dX2_sumAbove_7 (by decide) ?_
    refine lv_istore_n (lv' := [(3, .int (nI 1)), (0, .int (nI q)), (1, .int x), (2, .int y)]) hx hb dX2_sumAbove_11 rfl hl (by decide) rfl (fun ls hl => ?_)
    refine lv_iload_n hx hb dX2_sumAbove_12 rfl (lv_at hl 0 rfl) ?_
    refine lv_if_eq (tgt := 27) hx hb dX2_sumAbove_13 (by decide) (fun c3 => ?_) (fun c3 => ?_)
    · skip
      have c3 := (mz_eq (by omega)).mp c3
      exfalso; omega
    · skip
      have c3 : ¬ 1 = 0 := fun h9 => c3 ((mz_eq (by omega)).mpr h9)
      refine lv_iload_n hx hb dX2_sumAbove_16 rfl (lv_at hl 2 rfl) ?_
      refine lv_iload_n hx hb dX2_sumAbove_17 rfl (lv_at hl 3 rfl) ?_
      refine lv_iload_n hx hb dX2_sumAbove_18 rfl (lv_at hl 1 rfl) ?_
      refine lv_iconst (v := nI 2) hx hb dX2_sumAbove_19 (by decide) ?_
      refine mv_idiv (z := nI (q / 2)) hx hb (by decide) (pk_div (by omega) (by omega) (by omega)) dX2_sumAbove_20 ?_
      refine va_calli (va_runS (As := [.int x, .int y, .int (nI (q / 2))]) (rest := []) ⟨hx, hb, hml, hown, hts⟩ (c_X2_sumOfSums l G cy ad M _ x y (nI (q / 2))) (va_cwS 3 hts gX2_sumAbove_X2_sumOfSums rfl rfl rfl (by decide +kernel) ⟨Nat.le_of_ble_eq_true rfl, Nat.le_of_ble_eq_true rfl⟩) (mP_S hN hE) rfl rfl hl.1 rfl (lv_room (Nat.le_of_ble_eq_true rfl)) dX2_sumAbove_21 ⟨Nat.le_of_ble_eq_true rfl, Nat.le_of_ble_eq_true rfl⟩) hE.2.2.2 (fun q _ h => mE_A hE q h) (mE_A hE) (fun r u t H locs ht hvm hw hB hz1 hk1 hS => ?_)
      obtain ⟨rfl, rfl⟩ := hw
      have hE : mE G _ s.heap ad (M) H locs := mE_call hE hB ht hS
      refine lv_goto (tgt := 35) hx hb dX2_sumAbove_24 (by decide) ?_
      exact mx_iret hx hb hr hE hlocks ⟨(if_pos (by omega)).symm, rfl⟩ dX2_sumAbove_35


set_option maxHeartbeats 4000000 in
set_option maxRecDepth 100000 in
/-- at how many places sums differ -/
theorem c_X2_placesApart (l : Launch) (G : va_G) (cy : Nat → ClassId) (ad : Nat → Nat) (n k : Nat) (v : Nat → Nat → Int32) (o : mC) (hn : n ≤ 6) (hk : k ≤ 20) (sz : Nat) (w1 w2 : Nat) (hw1 : ∀ g, sy cy ad n k o w1 g = some (mI cy 32 g)) (hw2 : ∀ g, sy cy ad n k o w2 g = some (mI cy 32 g)) : mMi l yX2_placesApart wsX2_placesApart ({ frames := 7, cells := 0, slots := 0, locals := 100 }) G cy ad (Sy cy ad n k v o) sz [.ref (ad w1), .ref (ad w2)] 0 0 (fun (r : Int32) u => r = nI (mApart (v w1) (v w2) 31) ∧ u = (ad, Sy cy ad n k v o)) := by
  refine Met.ofW (cc := cX2_placesApart) (maxL := 4) (ret := (some .int)) (by decide) rfl ?_
  intro p e s m args below meth c s₁ B hml hv
  obtain ⟨rfl, hv⟩ := hv
  have hsz := hv.1
  subst hsz
  have hN := hv.2.2
  have hE := mP_E hv
  have hx := B.exec
  have hb := B.bytes
  have hr := B.returns
  have hts := atoms_spec (ws := wsX2_placesApart) B.pre
  have hown : s.vm.findClass RX2 = some m.cls := findClass_of_methodNamed B.named
  have hlocks := B.notSynchronized
  have hl := lv_entry ([.ref (ad w1), .ref (ad w2)]) (n := 4) (Nat.le_of_ble_eq_true rfl)
  rw [lg_entry_eq]
  generalize (lg_sl ([.ref (ad w1), .ref (ad w2)]) ++ List.replicate (4 - (lg_sl ([.ref (ad w1), .ref (ad w2)])).length) Slot.unset).toArray = ls at hl ⊢
  have hl : lv_has ls 4 [(0, .ref (ad w1)), (1, .ref (ad w2))] := hl
  refine lv_iconst (v := nI 0) hx hb dX2_placesApart_0 (by decide) ?_
  refine lv_istore_n (lv' := [(2, .int (nI 0)), (0, .ref (ad w1)), (1, .ref (ad w2))]) hx hb dX2_placesApart_1 rfl hl (by decide) rfl (fun ls hl => ?_)
  refine lv_iconst (v := nI 1) hx hb dX2_placesApart_2 (by decide) ?_
  refine lv_istore_n (lv' := [(3, .int (nI 1)), (2, .int (nI 0)), (0, .ref (ad w1)), (1, .ref (ad w2))]) hx hb dX2_placesApart_3 rfl hl (by decide) rfl (fun ls hl => ?_)
  refine mx_loop (β := Nat) (fun n9 (q : Nat) H locs ls => n9 = 31 - q ∧ (q ≤ 31) ∧ mE G (mA ad (Sy cy ad n k v o) s.heap.size) s.heap ad (Sy cy ad n k v o) H locs ∧ lv_has ls 4 [(3, .int (nI (q + 1))), (2, .int (nI (mApart (v w1) (v w2) q))), (0, .ref (ad w1)), (1, .ref (ad w2))]) ?_ (31 - 0) (0) _ _ _ ⟨rfl, (by omega), hE, lv_sub hl [0, 1, 2, 3] rfl⟩
  intro n9 q H locs ls hI ih1
  obtain ⟨hn2, hq, hE, hl⟩ := hI
  have ha := mApart_le (v w1) (v w2) q
  have hE : mE G _ s.heap ad (Sy cy ad n k v o) H locs := hE
  have hl : lv_has ls 4 [(3, .int (nI (q + 1))), (2, .int (nI (mApart (v w1) (v w2) q))), (0, .ref (ad w1)), (1, .ref (ad w2))] := hl
  refine lv_iload_n hx hb dX2_placesApart_4 rfl (lv_at hl 0 rfl) ?_
  refine lv_bipush (v := nI 31) hx hb dX2_placesApart_5 (by decide) ?_
  refine mv_gt (tgt := 28) hx hb (by omega) (by omega) dX2_placesApart_7 (by decide) (fun c3 => ?_) (fun c3 => ?_)
  · skip
    refine lv_iload_n hx hb dX2_placesApart_28 rfl (lv_at hl 1 rfl) ?_
    exact mx_iret hx hb hr hE hlocks ⟨by rw [show q = 31 by omega], rfl⟩ dX2_placesApart_29
  · skip
    refine lv_aload_n hx hb dX2_placesApart_10 rfl (lv_at hl 2 rfl) ?_
    refine lv_iload_n hx hb dX2_placesApart_11 rfl (lv_at hl 0 rfl) ?_
    refine mx_iald hx hb hN hE (S_w hw1 rfl) (j := q + 1) rfl (by omega) (by decide) dX2_placesApart_12 ?_
    refine lv_aload_n hx hb dX2_placesApart_13 rfl (lv_at hl 3 rfl) ?_
    refine lv_iload_n hx hb dX2_placesApart_14 rfl (lv_at hl 0 rfl) ?_
    refine mx_iald hx hb hN hE (S_w hw2 rfl) (j := q + 1) rfl (by omega) (by decide) dX2_placesApart_15 ?_
    refine lv_icmp_eq (tgt := 22) hx hb dX2_placesApart_16 (by decide) (fun c4 => ?_) (fun c4 => ?_)
    · skip
      have e9 : mApart (v w1) (v w2) q = mApart (v w1) (v w2) (q + 1) := by simp only [mApart]; rw [if_pos c4]; rfl
      rw [e9] at hl
      refine lv_iinc (v := nI ((q + 1) + 1)) (lv' := [(3, .int (nI ((q + 1) + 1))), (2, .int (nI (mApart (v w1) (v w2) (q + 1)))), (0, .ref (ad w1)), (1, .ref (ad w2))]) hx hb dX2_placesApart_22 hl (k := 0) rfl (nI_add _ _) (by decide) rfl (fun ls hl => ?_)
      refine lv_goto (tgt := 4) hx hb dX2_placesApart_25 (by decide) ?_
      exact ih1 (31 - (q + 1)) (q + 1) _ _ _ (by rw [hn2]; omega) ⟨rfl, (by omega), hE, lv_sub hl [0, 1, 2, 3] rfl⟩
    · skip
      refine lv_iinc (v := nI ((mApart (v w1) (v w2) q) + 1)) (lv' := [(2, .int (nI ((mApart (v w1) (v w2) q) + 1))), (3, .int (nI (q + 1))), (0, .ref (ad w1)), (1, .ref (ad w2))]) hx hb dX2_placesApart_19 hl (k := 1) rfl (nI_add _ _) (by decide) rfl (fun ls hl => ?_)
      have e9 : mApart (v w1) (v w2) q + 1 = mApart (v w1) (v w2) (q + 1) := by simp only [mApart]; rw [if_neg c4]
      rw [e9] at hl
      refine lv_iinc (v := nI ((q + 1) + 1)) (lv' := [(3, .int (nI ((q + 1) + 1))), (2, .int (nI (mApart (v w1) (v w2) (q + 1)))), (0, .ref (ad w1)), (1, .ref (ad w2))]) hx hb dX2_placesApart_22 hl (k := 1) rfl (nI_add _ _) (by decide) rfl (fun ls hl => ?_)
      refine lv_goto (tgt := 4) hx hb dX2_placesApart_25 (by decide) ?_
      exact ih1 (31 - (q + 1)) (q + 1) _ _ _ (by rw [hn2]; omega) ⟨rfl, (by omega), hE, lv_sub hl [0, 1, 2, 3] rfl⟩

set_option maxHeartbeats 4000000 in
set_option maxRecDepth 100000 in
/-- filledDrawers -/
theorem c_X0_filledDrawers (l : Launch) (G : va_G) (cy : Nat → ClassId) (ad : Nat → Nat) (n k : Nat) (v : Nat → Nat → Int32) (o : mC) (hn : n ≤ 6) (hk : k ≤ 20) (sz : Nat) (i : Nat) (h_i : i < n) : mMi l yX0_filledDrawers wsX0_filledDrawers ({ frames := 7, cells := 0, slots := 0, locals := 100 }) G cy ad (Sy cy ad n k v o) sz [.ref (ad (100 + i))] 0 0 (fun (r : Int32) u => r = nI (mFill (v (200 + i)) 16) ∧ u = (ad, Sy cy ad n k v o)) := by
  refine Met.ofW (cc := cX0_filledDrawers) (maxL := 6) (ret := (some .int)) (by decide) rfl ?_
  intro p e s m args below meth c s₁ B hml hv
  obtain ⟨rfl, hv⟩ := hv
  have hsz := hv.1
  subst hsz
  have hN := hv.2.2
  have hE := mP_E hv
  have hx := B.exec
  have hb := B.bytes
  have hr := B.returns
  have hts := atoms_spec (ws := wsX0_filledDrawers) B.pre
  have hown : s.vm.findClass RX0 = some m.cls := findClass_of_methodNamed B.named
  have hlocks := B.notSynchronized
  have hiX0 : ∀ w ∈ wsX00, w ∈ wsX0_filledDrawers := by decide +kernel
  have hl := lv_entry ([.ref (ad (100 + i))]) (n := 6) (Nat.le_of_ble_eq_true rfl)
  rw [lg_entry_eq]
  generalize (lg_sl ([.ref (ad (100 + i))]) ++ List.replicate (6 - (lg_sl ([.ref (ad (100 + i))])).length) Slot.unset).toArray = ls at hl ⊢
  have hl : lv_has ls 6 [(0, .ref (ad (100 + i)))] := hl
  refine lv_iconst (v := nI 0) hx hb dX0_filledDrawers_0 (by decide) ?_
  refine lv_istore_n (lv' := [(1, .int (nI 0)), (0, .ref (ad (100 + i)))]) hx hb dX0_filledDrawers_1 rfl hl (by decide) rfl (fun ls hl => ?_)
  refine lv_aload_n hx hb dX0_filledDrawers_2 rfl (lv_at hl 1 rfl) ?_
  refine va_get (D := G) (ci := 0) (v := .ref (ad (200 + i))) (C := RX0) (T := TX0) (N := 3) hx hb hts hiX0 hown hN.1 (mE_P1 hE (S_ce hn h_i rfl)) 0 rfl rfl 0 (by decide) (hts (.fieldLink RX0 9 "SealedCupboards$Cupboard" "things" "[I") (by decide +kernel)) (fun _ h9 => h9) rfl dX0_filledDrawers_3 ?_
  refine lv_astore_n (lv' := [(2, .ref (ad (200 + i))), (1, .int (nI 0)), (0, .ref (ad (100 + i)))]) hx hb dX0_filledDrawers_6 rfl hl (by decide) rfl (fun ls hl => ?_)
  refine lv_aload_n hx hb dX0_filledDrawers_7 rfl (lv_at hl 0 rfl) ?_
  refine va_alen (v := nI 16) hx hb hN.1 (mE_P1 hE (S_te hn h_i rfl)) 0 0 rfl rfl rfl dX0_filledDrawers_8 ?_
  refine lv_istore_n (lv' := [(3, .int (nI 16)), (2, .ref (ad (200 + i))), (1, .int (nI 0)), (0, .ref (ad (100 + i)))]) hx hb dX0_filledDrawers_9 rfl hl (by decide) rfl (fun ls hl => ?_)
  refine lv_iconst (v := nI 0) hx hb dX0_filledDrawers_10 (by decide) ?_
  refine lv_istore (lv' := [(4, .int (nI 0)), (3, .int (nI 16)), (2, .ref (ad (200 + i))), (1, .int (nI 0)), (0, .ref (ad (100 + i)))]) hx hb dX0_filledDrawers_11 hl (by decide) rfl (fun ls hl => ?_)
  refine mx_loop (β := Nat) (fun n9 (d : Nat) H locs ls => n9 = 16 - d ∧ (d ≤ 16) ∧ mE G (mA ad (Sy cy ad n k v o) s.heap.size) s.heap ad (Sy cy ad n k v o) H locs ∧ lv_has ls 6 [(4, .int (nI d)), (1, .int (nI (mFill (v (200 + i)) d))), (2, .ref (ad (200 + i))), (3, .int (nI 16))]) ?_ (16 - 0) (0) _ _ _ ⟨rfl, (by omega), hE, lv_sub hl [0, 3, 2, 1] rfl⟩
  intro n9 d H locs ls hI ih1
  obtain ⟨hn2, hd, hE, hl⟩ := hI
  have ha := mFill_le (v (200 + i)) d
  have hE : mE G _ s.heap ad (Sy cy ad n k v o) H locs := hE
  have hl : lv_has ls 6 [(4, .int (nI d)), (1, .int (nI (mFill (v (200 + i)) d))), (2, .ref (ad (200 + i))), (3, .int (nI 16))] := hl
  refine lv_iload hx hb dX0_filledDrawers_13 (lv_at hl 0 rfl) ?_
  refine lv_iload_n hx hb dX0_filledDrawers_15 rfl (lv_at hl 3 rfl) ?_
  refine mv_ge (tgt := 39) hx hb (by omega) (by omega) dX0_filledDrawers_16 (by decide) (fun c3 => ?_) (fun c3 => ?_)
  · skip
    refine lv_iload_n hx hb dX0_filledDrawers_39 rfl (lv_at hl 1 rfl) ?_
    exact mx_iret hx hb hr hE hlocks ⟨by rw [show d = 16 by omega], rfl⟩ dX0_filledDrawers_40
  · skip
    refine lv_aload_n hx hb dX0_filledDrawers_19 rfl (lv_at hl 2 rfl) ?_
    refine lv_iload hx hb dX0_filledDrawers_20 (lv_at hl 0 rfl) ?_
    refine mx_iald hx hb hN hE (S_te hn h_i rfl) (j := d) rfl (by omega) (by decide) dX0_filledDrawers_22 ?_
    refine lv_istore (lv' := [(5, .int (v (200 + i) d)), (4, .int (nI d)), (1, .int (nI (mFill (v (200 + i)) d))), (2, .ref (ad (200 + i))), (3, .int (nI 16))]) hx hb dX0_filledDrawers_23 hl (by decide) rfl (fun ls hl => ?_)
    refine lv_iload hx hb dX0_filledDrawers_25 (lv_at hl 0 rfl) ?_
    refine lv_if_eq (tgt := 33) hx hb dX0_filledDrawers_27 (by decide) (fun c4 => ?_) (fun c4 => ?_)
    · skip
      have e9 : mFill (v (200 + i)) d = mFill (v (200 + i)) (d + 1) := by simp only [mFill]; rw [if_pos c4]; rfl
      rw [e9] at hl
      refine lv_iinc (v := nI (d + 1)) (lv' := [(4, .int (nI (d + 1))), (5, .int (v (200 + i) d)), (1, .int (nI (mFill (v (200 + i)) (d + 1)))), (2, .ref (ad (200 + i))), (3, .int (nI 16))]) hx hb dX0_filledDrawers_33 hl (k := 1) rfl (nI_add _ _) (by decide) rfl (fun ls hl => ?_)
      refine lv_goto (tgt := 13) hx hb dX0_filledDrawers_36 (by decide) ?_
      exact ih1 (16 - (d + 1)) (d + 1) _ _ _ (by rw [hn2]; omega) ⟨rfl, (by omega), hE, lv_sub hl [0, 2, 3, 4] rfl⟩
    · skip
      refine lv_iinc (v := nI ((mFill (v (200 + i)) d) + 1)) (lv' := [(1, .int (nI ((mFill (v (200 + i)) d) + 1))), (5, .int (v (200 + i) d)), (4, .int (nI d)), (2, .ref (ad (200 + i))), (3, .int (nI 16))]) hx hb dX0_filledDrawers_30 hl (k := 2) rfl (nI_add _ _) (by decide) rfl (fun ls hl => ?_)
      have e9 : mFill (v (200 + i)) d + 1 = mFill (v (200 + i)) (d + 1) := by simp only [mFill]; rw [if_neg c4]
      rw [e9] at hl
      refine lv_iinc (v := nI (d + 1)) (lv' := [(4, .int (nI (d + 1))), (1, .int (nI (mFill (v (200 + i)) (d + 1)))), (5, .int (v (200 + i) d)), (2, .ref (ad (200 + i))), (3, .int (nI 16))]) hx hb dX0_filledDrawers_33 hl (k := 2) rfl (nI_add _ _) (by decide) rfl (fun ls hl => ?_)
      refine lv_goto (tgt := 13) hx hb dX0_filledDrawers_36 (by decide) ?_
      exact ih1 (16 - (d + 1)) (d + 1) _ _ _ (by rw [hn2]; omega) ⟨rfl, (by omega), hE, lv_sub hl [0, 1, 3, 4] rfl⟩

set_option maxHeartbeats 4000000 in
set_option maxRecDepth 100000 in
/-- thingsAdded -/
theorem c_X0_thingsAdded (l : Launch) (G : va_G) (cy : Nat → ClassId) (ad : Nat → Nat) (n k : Nat) (v : Nat → Nat → Int32) (o : mC) (hn : n ≤ 6) (hk : k ≤ 20) (sz : Nat) (i : Nat) (h_i : i < n) : mMi l yX0_thingsAdded wsX0_thingsAdded ({ frames := 7, cells := 0, slots := 0, locals := 100 }) G cy ad (Sy cy ad n k v o) sz [.ref (ad (100 + i))] 0 0 (fun (r : Int32) u => r = mAdd (v (200 + i)) 16 ∧ u = (ad, Sy cy ad n k v o)) := by
  refine Met.ofW (cc := cX0_thingsAdded) (maxL := 6) (ret := (some .int)) (by decide) rfl ?_
  intro p e s m args below meth c s₁ B hml hv
  obtain ⟨rfl, hv⟩ := hv
  have hsz := hv.1
  subst hsz
  have hN := hv.2.2
  have hE := mP_E hv
  have hx := B.exec
  have hb := B.bytes
  have hr := B.returns
  have hts := atoms_spec (ws := wsX0_thingsAdded) B.pre
  have hown : s.vm.findClass RX0 = some m.cls := findClass_of_methodNamed B.named
  have hlocks := B.notSynchronized
  have hiX0 : ∀ w ∈ wsX00, w ∈ wsX0_thingsAdded := by decide +kernel
  have hl := lv_entry ([.ref (ad (100 + i))]) (n := 6) (Nat.le_of_ble_eq_true rfl)
  rw [lg_entry_eq]
  generalize (lg_sl ([.ref (ad (100 + i))]) ++ List.replicate (6 - (lg_sl ([.ref (ad (100 + i))])).length) Slot.unset).toArray = ls at hl ⊢
  have hl : lv_has ls 6 [(0, .ref (ad (100 + i)))] := hl
  refine lv_iconst (v := nI 0) hx hb dX0_thingsAdded_0 (by decide) ?_
  refine lv_istore_n (lv' := [(1, .int (nI 0)), (0, .ref (ad (100 + i)))]) hx hb dX0_thingsAdded_1 rfl hl (by decide) rfl (fun ls hl => ?_)
  refine lv_aload_n hx hb dX0_thingsAdded_2 rfl (lv_at hl 1 rfl) ?_
  refine va_get (D := G) (ci := 0) (v := .ref (ad (200 + i))) (C := RX0) (T := TX0) (N := 3) hx hb hts hiX0 hown hN.1 (mE_P1 hE (S_ce hn h_i rfl)) 0 rfl rfl 0 (by decide) (hts (.fieldLink RX0 9 "SealedCupboards$Cupboard" "things" "[I") (by decide +kernel)) (fun _ h9 => h9) rfl dX0_thingsAdded_3 ?_
  refine lv_astore_n (lv' := [(2, .ref (ad (200 + i))), (1, .int (nI 0)), (0, .ref (ad (100 + i)))]) hx hb dX0_thingsAdded_6 rfl hl (by decide) rfl (fun ls hl => ?_)
  refine lv_aload_n hx hb dX0_thingsAdded_7 rfl (lv_at hl 0 rfl) ?_
  refine va_alen (v := nI 16) hx hb hN.1 (mE_P1 hE (S_te hn h_i rfl)) 0 0 rfl rfl rfl dX0_thingsAdded_8 ?_
  refine lv_istore_n (lv' := [(3, .int (nI 16)), (2, .ref (ad (200 + i))), (1, .int (nI 0)), (0, .ref (ad (100 + i)))]) hx hb dX0_thingsAdded_9 rfl hl (by decide) rfl (fun ls hl => ?_)
  refine lv_iconst (v := nI 0) hx hb dX0_thingsAdded_10 (by decide) ?_
  refine lv_istore (lv' := [(4, .int (nI 0)), (3, .int (nI 16)), (2, .ref (ad (200 + i))), (1, .int (nI 0)), (0, .ref (ad (100 + i)))]) hx hb dX0_thingsAdded_11 hl (by decide) rfl (fun ls hl => ?_)
  refine mx_loop (β := Nat) (fun n9 (d : Nat) H locs ls => n9 = 16 - d ∧ (d ≤ 16) ∧ mE G (mA ad (Sy cy ad n k v o) s.heap.size) s.heap ad (Sy cy ad n k v o) H locs ∧ lv_has ls 6 [(4, .int (nI d)), (1, .int (mAdd (v (200 + i)) d)), (2, .ref (ad (200 + i))), (3, .int (nI 16))]) ?_ (16 - 0) (0) _ _ _ ⟨rfl, (by omega), hE, lv_sub hl [0, 3, 2, 1] rfl⟩
  intro n9 d H locs ls hI ih1
  obtain ⟨hn2, hd, hE, hl⟩ := hI
  have ha := mFill_le (v (200 + i)) d
  have hE : mE G _ s.heap ad (Sy cy ad n k v o) H locs := hE
  have hl : lv_has ls 6 [(4, .int (nI d)), (1, .int (mAdd (v (200 + i)) d)), (2, .ref (ad (200 + i))), (3, .int (nI 16))] := hl
  refine lv_iload hx hb dX0_thingsAdded_13 (lv_at hl 0 rfl) ?_
  refine lv_iload_n hx hb dX0_thingsAdded_15 rfl (lv_at hl 3 rfl) ?_
  refine mv_ge (tgt := 36) hx hb (by omega) (by omega) dX0_thingsAdded_16 (by decide) (fun c3 => ?_) (fun c3 => ?_)
  · skip
    refine lv_iload_n hx hb dX0_thingsAdded_36 rfl (lv_at hl 1 rfl) ?_
    exact mx_iret hx hb hr hE hlocks ⟨by rw [show d = 16 by omega], rfl⟩ dX0_thingsAdded_37
  · skip
    refine lv_aload_n hx hb dX0_thingsAdded_19 rfl (lv_at hl 2 rfl) ?_
    refine lv_iload hx hb dX0_thingsAdded_20 (lv_at hl 0 rfl) ?_
    refine mx_iald hx hb hN hE (S_te hn h_i rfl) (j := d) rfl (by omega) (by decide) dX0_thingsAdded_22 ?_
    refine lv_istore (lv' := [(5, .int (v (200 + i) d)), (4, .int (nI d)), (1, .int (mAdd (v (200 + i)) d)), (2, .ref (ad (200 + i))), (3, .int (nI 16))]) hx hb dX0_thingsAdded_23 hl (by decide) rfl (fun ls hl => ?_)
    refine lv_iload_n hx hb dX0_thingsAdded_25 rfl (lv_at hl 2 rfl) ?_
    refine lv_iload hx hb dX0_thingsAdded_26 (lv_at hl 0 rfl) ?_
    refine mv_iadd (z := (mAdd (v (200 + i)) d) + (v (200 + i) d)) hx hb rfl dX0_thingsAdded_28 ?_
    refine lv_istore_n (lv' := [(1, .int ((mAdd (v (200 + i)) d) + (v (200 + i) d))), (5, .int (v (200 + i) d)), (4, .int (nI d)), (2, .ref (ad (200 + i))), (3, .int (nI 16))]) hx hb dX0_thingsAdded_29 rfl hl (by decide) rfl (fun ls hl => ?_)
    have e9 : mAdd (v (200 + i)) d + v (200 + i) d = mAdd (v (200 + i)) (d + 1) := rfl
    rw [e9] at hl
    refine lv_iinc (v := nI (d + 1)) (lv' := [(4, .int (nI (d + 1))), (1, .int (mAdd (v (200 + i)) (d + 1))), (5, .int (v (200 + i) d)), (2, .ref (ad (200 + i))), (3, .int (nI 16))]) hx hb dX0_thingsAdded_30 hl (k := 2) rfl (nI_add _ _) (by decide) rfl (fun ls hl => ?_)
    refine lv_goto (tgt := 13) hx hb dX0_thingsAdded_33 (by decide) ?_
    exact ih1 (16 - (d + 1)) (d + 1) _ _ _ (by rw [hn2]; omega) ⟨rfl, (by omega), hE, lv_sub hl [0, 1, 3, 4] rfl⟩

set_option maxHeartbeats 4000000 in
set_option maxRecDepth 100000 in
/-- a sum of a proof -/
theorem c_X0_proofSum (l : Launch) (G : va_G) (cy : Nat → ClassId) (ad : Nat → Nat) (n k : Nat) (v : Nat → Nat → Int32) (o : mC) (hn : n ≤ 6) (hk : k ≤ 20) (sz : Nat) (i d t : Nat) (h_i : i < n) (hd : d < 16) (ht : t < 4) : mMi l yX0_proofSum wsX0_proofSum ({ frames := 7, cells := 0, slots := 0, locals := 100 }) G cy ad (Sy cy ad n k v o) sz [.ref (ad (100 + i)), .int (nI d), .int (nI t)] 0 0 (fun (r : Int32) u => r = v (300 + i) (mBes d t) ∧ u = (ad, Sy cy ad n k v o)) := by
  refine Met.ofW (cc := cX0_proofSum) (maxL := 3) (ret := (some .int)) (by decide) rfl ?_
  intro p e s m args below meth c s₁ B hml hv
  obtain ⟨rfl, hv⟩ := hv
  have hsz := hv.1
  subst hsz
  have hN := hv.2.2
  have hE := mP_E hv
  have hx := B.exec
  have hb := B.bytes
  have hr := B.returns
  have hts := atoms_spec (ws := wsX0_proofSum) B.pre
  have hown : s.vm.findClass RX0 = some m.cls := findClass_of_methodNamed B.named
  have hlocks := B.notSynchronized
  have hiX0 : ∀ w ∈ wsX00, w ∈ wsX0_proofSum := by decide +kernel
  have hl := lv_entry ([.ref (ad (100 + i)), .int (nI d), .int (nI t)]) (n := 3) (Nat.le_of_ble_eq_true rfl)
  rw [lg_entry_eq]
  generalize (lg_sl ([.ref (ad (100 + i)), .int (nI d), .int (nI t)]) ++ List.replicate (3 - (lg_sl ([.ref (ad (100 + i)), .int (nI d), .int (nI t)])).length) Slot.unset).toArray = ls at hl ⊢
  have hl : lv_has ls 3 [(0, .ref (ad (100 + i))), (1, .int (nI d)), (2, .int (nI t))] := hl
  refine lv_aload_n hx hb dX0_proofSum_0 rfl (lv_at hl 0 rfl) ?_
  refine va_get (D := G) (ci := 0) (v := .ref (ad (300 + i))) (C := RX0) (T := TX0) (N := 3) hx hb hts hiX0 hown hN.1 (mE_P1 hE (S_ce hn h_i rfl)) 0 rfl rfl 1 (by decide) (hts (.fieldLink RX0 15 "SealedCupboards$Cupboard" "sums" "[I") (by decide +kernel)) (fun _ h9 => h9) rfl dX0_proofSum_1 ?_
  refine lv_bipush (v := nI 16) hx hb dX0_proofSum_4 (by decide) ?_
  refine lv_iload_n hx hb dX0_proofSum_6 rfl (lv_at hl 1 rfl) ?_
  refine mv_iadd (z := nI (16 + d)) hx hb (nI_add _ _) dX0_proofSum_7 ?_
  refine lv_iload_n hx hb dX0_proofSum_8 rfl (lv_at hl 2 rfl) ?_
  refine mv_ishr (z := nI ((16 + d) / 2 ^ t)) hx hb (pk_shrN (by omega) _ _ (mu_l t (by omega))) dX0_proofSum_9 ?_
  refine lv_iconst (v := nI 1) hx hb dX0_proofSum_10 (by decide) ?_
  refine mv_ixor (z := nI (mBes d t)) hx hb ((mu_xor _ _).trans (congrArg nI (mu_bes d hd t ht))) dX0_proofSum_11 ?_
  refine mx_iald hx hb hN hE (S_se hn h_i rfl) (j := mBes d t) rfl (mBes_lt d hd t ht) (by decide) dX0_proofSum_12 ?_
  exact mx_iret hx hb hr hE hlocks ⟨rfl, rfl⟩ dX0_proofSum_13

set_option maxHeartbeats 4000000 in
set_option maxRecDepth 100000 in
/-- findCupboard -/
theorem c_X2_findCupboard (l : Launch) (G : va_G) (cy : Nat → ClassId) (ad : Nat → Nat) (n k : Nat) (v : Nat → Nat → Int32) (o : mC) (hn : n ≤ 6) (hk : k ≤ 20) (sz : Nat) (i : Nat) (h_i : i < n) : mMq l yX2_findCupboard wsX2_findCupboard ({ frames := 7, cells := 0, slots := 0, locals := 100 }) G cy ad (Sy cy ad n k v o) sz [.ref (ad 0), .int (nI i)] 0 0 (fun (r : Option Nat) u => r = some (ad (100 + i)) ∧ u = (ad, Sy cy ad n k v o)) := by
  refine Met.ofW (cc := cX2_findCupboard) (maxL := 2) (ret := (some (.object "SealedCupboards$Cupboard"))) (by decide) rfl ?_
  intro p e s m args below meth c s₁ B hml hv
  obtain ⟨rfl, hv⟩ := hv
  have hsz := hv.1
  subst hsz
  have hN := hv.2.2
  have hE := mP_E hv
  have hx := B.exec
  have hb := B.bytes
  have hr := B.returns
  have hts := atoms_spec (ws := wsX2_findCupboard) B.pre
  have hown : s.vm.findClass RX2 = some m.cls := findClass_of_methodNamed B.named
  have hlocks := B.notSynchronized
  have hiX2 : ∀ w ∈ wsX20, w ∈ wsX2_findCupboard := by decide +kernel
  have hl := lv_entry ([.ref (ad 0), .int (nI i)]) (n := 2) (Nat.le_of_ble_eq_true rfl)
  rw [lg_entry_eq]
  generalize (lg_sl ([.ref (ad 0), .int (nI i)]) ++ List.replicate (2 - (lg_sl ([.ref (ad 0), .int (nI i)])).length) Slot.unset).toArray = ls at hl ⊢
  have hl : lv_has ls 2 [(0, .ref (ad 0)), (1, .int (nI i))] := hl
  refine lv_iload_n hx hb dX2_findCupboard_0 rfl (lv_at hl 1 rfl) ?_
  refine lv_if_lt (tgt := 12) hx hb dX2_findCupboard_1 (by decide) (fun c1 => ?_) (fun c1 => ?_)
  · skip
    exact absurd c1 (nI_pos (by omega))
  · skip
    refine lv_iload_n hx hb dX2_findCupboard_4 rfl (lv_at hl 1 rfl) ?_
    refine lv_aload_n hx hb dX2_findCupboard_5 rfl (lv_at hl 0 rfl) ?_
    refine va_get (D := G) (ci := 2) (v := .int (nI n)) (C := RX2) (T := TX2) (N := 5) hx hb hts hiX2 hown hN.1 (mE_P1 hE S_0) 0 rfl rfl 3 (by decide) (hts (.fieldLink RX2 25 "SealedCupboards" "cupboardCount" "I") (by decide +kernel)) (fun _ h9 => h9) rfl dX2_findCupboard_6 ?_
    refine mv_lt (tgt := 22) hx hb (by omega) (by omega) dX2_findCupboard_9 (by decide) (fun c2 => ?_) (fun c2 => ?_)
    · skip
      refine lv_aload_n hx hb dX2_findCupboard_22 rfl (lv_at hl 0 rfl) ?_
      refine va_get (D := G) (ci := 2) (v := .ref (ad 1)) (C := RX2) (T := TX2) (N := 5) hx hb hts hiX2 hown hN.1 (mE_P1 hE S_0) 0 rfl rfl 0 (by decide) (hts (.fieldLink RX2 11 "SealedCupboards" "cupboards" "[LSealedCupboards$Cupboard;") (by decide +kernel)) (fun _ h9 => h9) rfl dX2_findCupboard_23 ?_
      refine lv_iload_n hx hb dX2_findCupboard_26 rfl (lv_at hl 1 rfl) ?_
      refine mx_aald (t := 1) hx hb hN hE S_1 rfl (j := i) rfl (by omega) (by decide) (S_1at h_i) dX2_findCupboard_27 ?_
      exact mx_aret hx hb hr hE hlocks ⟨rfl, rfl⟩ dX2_findCupboard_28
    · skip
      exfalso; omega

set_option maxHeartbeats 4000000 in
set_option maxRecDepth 100000 in
/-- findSeal -/
theorem c_X2_findSeal (l : Launch) (G : va_G) (cy : Nat → ClassId) (ad : Nat → Nat) (n k : Nat) (v : Nat → Nat → Int32) (o : mC) (hn : n ≤ 6) (hk : k ≤ 20) (sz : Nat) (j : Nat) (h_j : j < k) : mMq l yX2_findSeal wsX2_findSeal ({ frames := 7, cells := 0, slots := 0, locals := 100 }) G cy ad (Sy cy ad n k v o) sz [.ref (ad 0), .int (nI j)] 0 0 (fun (r : Option Nat) u => r = some (ad (400 + j)) ∧ u = (ad, Sy cy ad n k v o)) := by
  refine Met.ofW (cc := cX2_findSeal) (maxL := 2) (ret := (some (.object "SealedCupboards$Seal"))) (by decide) rfl ?_
  intro p e s m args below meth c s₁ B hml hv
  obtain ⟨rfl, hv⟩ := hv
  have hsz := hv.1
  subst hsz
  have hN := hv.2.2
  have hE := mP_E hv
  have hx := B.exec
  have hb := B.bytes
  have hr := B.returns
  have hts := atoms_spec (ws := wsX2_findSeal) B.pre
  have hown : s.vm.findClass RX2 = some m.cls := findClass_of_methodNamed B.named
  have hlocks := B.notSynchronized
  have hiX2 : ∀ w ∈ wsX20, w ∈ wsX2_findSeal := by decide +kernel
  have hl := lv_entry ([.ref (ad 0), .int (nI j)]) (n := 2) (Nat.le_of_ble_eq_true rfl)
  rw [lg_entry_eq]
  generalize (lg_sl ([.ref (ad 0), .int (nI j)]) ++ List.replicate (2 - (lg_sl ([.ref (ad 0), .int (nI j)])).length) Slot.unset).toArray = ls at hl ⊢
  have hl : lv_has ls 2 [(0, .ref (ad 0)), (1, .int (nI j))] := hl
  refine lv_iload_n hx hb dX2_findSeal_0 rfl (lv_at hl 1 rfl) ?_
  refine lv_if_lt (tgt := 12) hx hb dX2_findSeal_1 (by decide) (fun c1 => ?_) (fun c1 => ?_)
  · skip
    exact absurd c1 (nI_pos (by omega))
  · skip
    refine lv_iload_n hx hb dX2_findSeal_4 rfl (lv_at hl 1 rfl) ?_
    refine lv_aload_n hx hb dX2_findSeal_5 rfl (lv_at hl 0 rfl) ?_
    refine va_get (D := G) (ci := 2) (v := .int (nI k)) (C := RX2) (T := TX2) (N := 5) hx hb hts hiX2 hown hN.1 (mE_P1 hE S_0) 0 rfl rfl 4 (by decide) (hts (.fieldLink RX2 97 "SealedCupboards" "sealCount" "I") (by decide +kernel)) (fun _ h9 => h9) rfl dX2_findSeal_6 ?_
    refine mv_lt (tgt := 22) hx hb (by omega) (by omega) dX2_findSeal_9 (by decide) (fun c2 => ?_) (fun c2 => ?_)
    · skip
      refine lv_aload_n hx hb dX2_findSeal_22 rfl (lv_at hl 0 rfl) ?_
      refine va_get (D := G) (ci := 2) (v := .ref (ad 2)) (C := RX2) (T := TX2) (N := 5) hx hb hts hiX2 hown hN.1 (mE_P1 hE S_0) 0 rfl rfl 1 (by decide) (hts (.fieldLink RX2 17 "SealedCupboards" "seals" "[LSealedCupboards$Seal;") (by decide +kernel)) (fun _ h9 => h9) rfl dX2_findSeal_23 ?_
      refine lv_iload_n hx hb dX2_findSeal_26 rfl (lv_at hl 1 rfl) ?_
      refine mx_aald (t := 2) hx hb hN hE S_2 rfl (j := j) rfl (by omega) (by decide) (S_2at h_j) dX2_findSeal_27 ?_
      exact mx_aret hx hb hr hE hlocks ⟨rfl, rfl⟩ dX2_findSeal_28
    · skip
      exfalso; omega
