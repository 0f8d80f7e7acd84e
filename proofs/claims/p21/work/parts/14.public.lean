set_option maxHeartbeats 4000000 in
set_option maxRecDepth 100000 in
/-- proof -/
theorem c_X2_proof (l : Launch) (G : va_G) (cy : Nat → ClassId) (ad : Nat → Nat) (n k : Nat) (v : Nat → Nat → Int32) (o : mC) (hn : n ≤ 6) (hk : k ≤ 20) (sz : Nat) (i : Nat) (h_i : i < n) (d t9 : Nat) (hd : d < 16) (ht9 : t9 < 4) : mMi l yX2_proof wsX2_proof ({ frames := 8, cells := 0, slots := 0, locals := 140 }) G cy ad (Sy cy ad n k v o) sz [.ref (ad 0), .int (nI i), .int (nI d), .int (nI t9)] 0 0 (fun (r : Int32) u => r = v (300 + i) (mBes d t9) ∧ u = (ad, Sy cy ad n k v o)) := by
  refine Met.ofW (cc := cX2_proof) (maxL := 5) (ret := (some .int)) (by decide) rfl ?_
  intro p e s m args below meth c s₁ B hml hv
  obtain ⟨rfl, hv⟩ := hv
  have hsz := hv.1
  subst hsz
  have hN := hv.2.2
  have hE := mP_E hv
  have hx := B.exec
  have hb := B.bytes
  have hr := B.returns
  have hts := atoms_spec (ws := wsX2_proof) B.pre
  have hown : s.vm.findClass RX2 = some m.cls := findClass_of_methodNamed B.named
  have hlocks := B.notSynchronized
  have hiX2 : ∀ w ∈ wsX20, w ∈ wsX2_proof := by decide +kernel
  have hiX0 : ∀ w ∈ wsX00, w ∈ wsX2_proof := by decide +kernel
  have hl := lv_entry ([.ref (ad 0), .int (nI i), .int (nI d), .int (nI t9)]) (n := 5) (Nat.le_of_ble_eq_true rfl)
  rw [lg_entry_eq]
  generalize (lg_sl ([.ref (ad 0), .int (nI i), .int (nI d), .int (nI t9)]) ++ List.replicate (5 - (lg_sl ([.ref (ad 0), .int (nI i), .int (nI d), .int (nI t9)])).length) Slot.unset).toArray = ls at hl ⊢
  have hl : lv_has ls 5 [(0, .ref (ad 0)), (1, .int (nI i)), (2, .int (nI d)), (3, .int (nI t9))] := hl
  refine lv_aload_n hx hb dX2_proof_0 rfl (lv_at hl 0 rfl) ?_
  refine lv_iload_n hx hb dX2_proof_1 rfl (lv_at hl 1 rfl) ?_
  refine va_callq (va_runV (As := [.int (nI i)]) (rest := []) ⟨hx, hb, hml, hown, hts⟩ (c_X2_findCupboard l G cy ad n k v o hn hk _ i h_i) (cwV 1 hts gX2_proof_X2_findCupboard rfl rfl rfl (by decide +kernel) ⟨Nat.le_of_ble_eq_true rfl, Nat.le_of_ble_eq_true rfl⟩) (mP_V (r := (RX2, TX2, 5)) hN hE S_0 rfl) rfl rfl hl.1 rfl (lv_room (Nat.le_of_ble_eq_true rfl)) dX2_proof_2 ⟨Nat.le_of_ble_eq_true rfl, Nat.le_of_ble_eq_true rfl⟩) hE.2.2.2 (fun q _ h => mE_A hE q h) (mE_A hE) (fun r uq tq H locs ht hvm hw hB hz1 hk1 hS => ?_)
  obtain ⟨rfl, rfl⟩ := hw
  have hE : mE G (mA ad (Sy cy ad n k v o) s.heap.size) s.heap ad (Sy cy ad n k v o) H locs := mE_call hE hB ht hS
  refine lv_astore (lv' := [(4, .ref (ad (100 + i))), (0, .ref (ad 0)), (1, .int (nI i)), (2, .int (nI d)), (3, .int (nI t9))]) hx hb dX2_proof_5 hl (by decide) rfl (fun ls hl => ?_)
  refine lv_iload_n hx hb dX2_proof_7 rfl (lv_at hl 3 rfl) ?_
  refine va_callv (va_runS (As := [.int (nI d)]) (rest := []) ⟨hx, hb, hml, hown, hts⟩ (c_X2_checkDrawer l G cy ad (Sy cy ad n k v o) _ d (by omega)) (va_cwS 1 hts gX2_proof_X2_checkDrawer rfl rfl rfl (by decide +kernel) ⟨Nat.le_of_ble_eq_true rfl, Nat.le_of_ble_eq_true rfl⟩) (mP_S hN hE) rfl rfl hl.1 rfl (lv_room (Nat.le_of_ble_eq_true rfl)) dX2_proof_8 ⟨Nat.le_of_ble_eq_true rfl, Nat.le_of_ble_eq_true rfl⟩) hE.2.2.2 (fun q _ h => mE_A hE q h) (mE_A hE) (fun uq tq H locs ht hvm hw hB hz1 hk1 hS => ?_)
  subst hw
  have hE : mE G (mA ad (Sy cy ad n k v o) s.heap.size) s.heap ad (Sy cy ad n k v o) H locs := mE_call hE hB ht hS
  refine lv_iload_n hx hb dX2_proof_11 rfl (lv_at hl 4 rfl) ?_
  refine lv_if_lt (tgt := 20) hx hb dX2_proof_12 (by decide) (fun c1 => ?_) (fun c1 => ?_)
  · skip
    exact absurd c1 (nI_pos (by omega))
  · skip
    refine lv_iload_n hx hb dX2_proof_15 rfl (lv_at hl 4 rfl) ?_
    refine lv_iconst (v := nI 4) hx hb dX2_proof_16 (by decide) ?_
    refine mv_lt (tgt := 30) hx hb (by omega) (by omega) dX2_proof_17 (by decide) (fun c2 => ?_) (fun c2 => ?_)
    · skip
      refine lv_aload hx hb dX2_proof_30 (lv_at hl 0 rfl) ?_
      refine lv_iload_n hx hb dX2_proof_32 rfl (lv_at hl 3 rfl) ?_
      refine lv_iload_n hx hb dX2_proof_33 rfl (lv_at hl 4 rfl) ?_
      refine va_calli (va_runVN (As := [.int (nI d), .int (nI t9)]) (rest := []) ⟨hx, hb, hml, hown, hts⟩ (c_X0_proofSum l G cy ad n k v o hn hk _ i d t9 h_i (by omega) (by omega)) ⟨va_cnB 2 hts gX2_proof_X0_proofSum_n117 rfl rfl rfl (hN.2.1 (.methodLinkNest RX2 117 yX0_proofSum RX2) (by decide +kernel)) (hts (.initialized RX0) (by decide +kernel)) (by decide +kernel) ⟨Nat.le_of_ble_eq_true rfl, Nat.le_of_ble_eq_true rfl⟩, (hts (.instanceMethod yX0_proofSum) (by decide +kernel)), (hts (.selects RX0 yX0_proofSum yX0_proofSum) (by decide +kernel))⟩ (mP_V (r := (RX0, TX0, 3)) hN hE (S_ce hn h_i rfl) rfl) rfl rfl hl.1 rfl (lv_room (Nat.le_of_ble_eq_true rfl)) dX2_proof_34 ⟨Nat.le_of_ble_eq_true rfl, Nat.le_of_ble_eq_true rfl⟩) hE.2.2.2 (fun q _ h => mE_A hE q h) (mE_A hE) (fun r uq tq H locs ht hvm hw hB hz1 hk1 hS => ?_)
      obtain ⟨rfl, rfl⟩ := hw
      have hE : mE G (mA ad (Sy cy ad n k v o) s.heap.size) s.heap ad (Sy cy ad n k v o) H locs := mE_call hE hB ht hS
      exact mx_iret hx hb hr hE hlocks ⟨rfl, rfl⟩ dX2_proof_37
    · skip
      exfalso; omega

set_option maxHeartbeats 4000000 in
set_option maxRecDepth 100000 in
/-- comes -/
theorem c_X2_comes (l : Launch) (G : va_G) (cy : Nat → ClassId) (ad : Nat → Nat) (n k : Nat) (v : Nat → Nat → Int32) (o : mC) (hn : n ≤ 6) (hk : k ≤ 20) (sz : Nat) (d t9 a1 a2 a3 a4 : Nat) (hd : d < 16) (ht9 : t9 < 10000) (h1 : a1 < 997) (h2 : a2 < 997) (h3 : a3 < 997) (h4 : a4 < 997) : mMi l yX2_comes wsX2_comes ({ frames := 9, cells := 0, slots := 0, locals := 180 }) G cy ad (Sy cy ad n k v o) sz [.ref (ad 0), .int (nI d), .int (nI t9), .int (nI a1), .int (nI a2), .int (nI a3), .int (nI a4)] 0 0 (fun (r : Int32) u => r = mComes d (nI t9) (nI a1) (nI a2) (nI a3) (nI a4) ∧ u = (ad, Sy cy ad n k v o)) := by
  refine Met.ofW (cc := cX2_comes) (maxL := 9) (ret := (some .int)) (by decide) rfl ?_
  intro p e s m args below meth c s₁ B hml hv
  obtain ⟨rfl, hv⟩ := hv
  have hsz := hv.1
  subst hsz
  have hN := hv.2.2
  have hE := mP_E hv
  have hx := B.exec
  have hb := B.bytes
  have hr := B.returns
  have hts := atoms_spec (ws := wsX2_comes) B.pre
  have hown : s.vm.findClass RX2 = some m.cls := findClass_of_methodNamed B.named
  have hlocks := B.notSynchronized
  have hl := lv_entry ([.ref (ad 0), .int (nI d), .int (nI t9), .int (nI a1), .int (nI a2), .int (nI a3), .int (nI a4)]) (n := 9) (Nat.le_of_ble_eq_true rfl)
  rw [lg_entry_eq]
  generalize (lg_sl ([.ref (ad 0), .int (nI d), .int (nI t9), .int (nI a1), .int (nI a2), .int (nI a3), .int (nI a4)]) ++ List.replicate (9 - (lg_sl ([.ref (ad 0), .int (nI d), .int (nI t9), .int (nI a1), .int (nI a2), .int (nI a3), .int (nI a4)])).length) Slot.unset).toArray = ls at hl ⊢
  have hl : lv_has ls 9 [(0, .ref (ad 0)), (1, .int (nI d)), (2, .int (nI t9)), (3, .int (nI a1)), (4, .int (nI a2)), (5, .int (nI a3)), (6, .int (nI a4))] := hl
  refine lv_iload_n hx hb dX2_comes_0 rfl (lv_at hl 1 rfl) ?_
  refine va_callv (va_runS (As := [.int (nI d)]) (rest := []) ⟨hx, hb, hml, hown, hts⟩ (c_X2_checkDrawer l G cy ad (Sy cy ad n k v o) _ d (by omega)) (va_cwS 1 hts gX2_comes_X2_checkDrawer rfl rfl rfl (by decide +kernel) ⟨Nat.le_of_ble_eq_true rfl, Nat.le_of_ble_eq_true rfl⟩) (mP_S hN hE) rfl rfl hl.1 rfl (lv_room (Nat.le_of_ble_eq_true rfl)) dX2_comes_1 ⟨Nat.le_of_ble_eq_true rfl, Nat.le_of_ble_eq_true rfl⟩) hE.2.2.2 (fun q _ h => mE_A hE q h) (mE_A hE) (fun uq tq H locs ht hvm hw hB hz1 hk1 hS => ?_)
  subst hw
  have hE : mE G (mA ad (Sy cy ad n k v o) s.heap.size) s.heap ad (Sy cy ad n k v o) H locs := mE_call hE hB ht hS
  refine lv_iload_n hx hb dX2_comes_4 rfl (lv_at hl 2 rfl) ?_
  refine va_callv (va_runS (As := [.int (nI t9)]) (rest := []) ⟨hx, hb, hml, hown, hts⟩ (c_X2_checkThing l G cy ad (Sy cy ad n k v o) _ t9 (by omega)) (va_cwS 1 hts gX2_comes_X2_checkThing rfl rfl rfl (by decide +kernel) ⟨Nat.le_of_ble_eq_true rfl, Nat.le_of_ble_eq_true rfl⟩) (mP_S hN hE) rfl rfl hl.1 rfl (lv_room (Nat.le_of_ble_eq_true rfl)) dX2_comes_5 ⟨Nat.le_of_ble_eq_true rfl, Nat.le_of_ble_eq_true rfl⟩) hE.2.2.2 (fun q _ h => mE_A hE q h) (mE_A hE) (fun uq tq H locs ht hvm hw hB hz1 hk1 hS => ?_)
  subst hw
  have hE : mE G (mA ad (Sy cy ad n k v o) s.heap.size) s.heap ad (Sy cy ad n k v o) H locs := mE_call hE hB ht hS
  refine lv_iload_n hx hb dX2_comes_8 rfl (lv_at hl 3 rfl) ?_
  refine va_callv (va_runS (As := [.int (nI a1)]) (rest := []) ⟨hx, hb, hml, hown, hts⟩ (c_X2_checkSum l G cy ad (Sy cy ad n k v o) _ a1 (by omega)) (va_cwS 1 hts gX2_comes_X2_checkSum rfl rfl rfl (by decide +kernel) ⟨Nat.le_of_ble_eq_true rfl, Nat.le_of_ble_eq_true rfl⟩) (mP_S hN hE) rfl rfl hl.1 rfl (lv_room (Nat.le_of_ble_eq_true rfl)) dX2_comes_9 ⟨Nat.le_of_ble_eq_true rfl, Nat.le_of_ble_eq_true rfl⟩) hE.2.2.2 (fun q _ h => mE_A hE q h) (mE_A hE) (fun uq tq H locs ht hvm hw hB hz1 hk1 hS => ?_)
  subst hw
  have hE : mE G (mA ad (Sy cy ad n k v o) s.heap.size) s.heap ad (Sy cy ad n k v o) H locs := mE_call hE hB ht hS
  refine lv_iload hx hb dX2_comes_12 (lv_at hl 4 rfl) ?_
  refine va_callv (va_runS (As := [.int (nI a2)]) (rest := []) ⟨hx, hb, hml, hown, hts⟩ (c_X2_checkSum l G cy ad (Sy cy ad n k v o) _ a2 (by omega)) (va_cwS 1 hts gX2_comes_X2_checkSum rfl rfl rfl (by decide +kernel) ⟨Nat.le_of_ble_eq_true rfl, Nat.le_of_ble_eq_true rfl⟩) (mP_S hN hE) rfl rfl hl.1 rfl (lv_room (Nat.le_of_ble_eq_true rfl)) dX2_comes_14 ⟨Nat.le_of_ble_eq_true rfl, Nat.le_of_ble_eq_true rfl⟩) hE.2.2.2 (fun q _ h => mE_A hE q h) (mE_A hE) (fun uq tq H locs ht hvm hw hB hz1 hk1 hS => ?_)
  subst hw
  have hE : mE G (mA ad (Sy cy ad n k v o) s.heap.size) s.heap ad (Sy cy ad n k v o) H locs := mE_call hE hB ht hS
  refine lv_iload hx hb dX2_comes_17 (lv_at hl 5 rfl) ?_
  refine va_callv (va_runS (As := [.int (nI a3)]) (rest := []) ⟨hx, hb, hml, hown, hts⟩ (c_X2_checkSum l G cy ad (Sy cy ad n k v o) _ a3 (by omega)) (va_cwS 1 hts gX2_comes_X2_checkSum rfl rfl rfl (by decide +kernel) ⟨Nat.le_of_ble_eq_true rfl, Nat.le_of_ble_eq_true rfl⟩) (mP_S hN hE) rfl rfl hl.1 rfl (lv_room (Nat.le_of_ble_eq_true rfl)) dX2_comes_19 ⟨Nat.le_of_ble_eq_true rfl, Nat.le_of_ble_eq_true rfl⟩) hE.2.2.2 (fun q _ h => mE_A hE q h) (mE_A hE) (fun uq tq H locs ht hvm hw hB hz1 hk1 hS => ?_)
  subst hw
  have hE : mE G (mA ad (Sy cy ad n k v o) s.heap.size) s.heap ad (Sy cy ad n k v o) H locs := mE_call hE hB ht hS
  refine lv_iload hx hb dX2_comes_22 (lv_at hl 6 rfl) ?_
  refine va_callv (va_runS (As := [.int (nI a4)]) (rest := []) ⟨hx, hb, hml, hown, hts⟩ (c_X2_checkSum l G cy ad (Sy cy ad n k v o) _ a4 (by omega)) (va_cwS 1 hts gX2_comes_X2_checkSum rfl rfl rfl (by decide +kernel) ⟨Nat.le_of_ble_eq_true rfl, Nat.le_of_ble_eq_true rfl⟩) (mP_S hN hE) rfl rfl hl.1 rfl (lv_room (Nat.le_of_ble_eq_true rfl)) dX2_comes_24 ⟨Nat.le_of_ble_eq_true rfl, Nat.le_of_ble_eq_true rfl⟩) hE.2.2.2 (fun q _ h => mE_A hE q h) (mE_A hE) (fun uq tq H locs ht hvm hw hB hz1 hk1 hS => ?_)
  subst hw
  have hE : mE G (mA ad (Sy cy ad n k v o) s.heap.size) s.heap ad (Sy cy ad n k v o) H locs := mE_call hE hB ht hS
  refine lv_bipush (v := nI 16) hx hb dX2_comes_27 (by decide) ?_
  refine lv_iload_n hx hb dX2_comes_29 rfl (lv_at hl 1 rfl) ?_
  refine mv_iadd (z := nI (16 + d)) hx hb (nI_add _ _) dX2_comes_30 ?_
  refine lv_istore (lv' := [(7, .int (nI (16 + d))), (0, .ref (ad 0)), (1, .int (nI d)), (2, .int (nI t9)), (3, .int (nI a1)), (4, .int (nI a2)), (5, .int (nI a3)), (6, .int (nI a4))]) hx hb dX2_comes_31 hl (by decide) rfl (fun ls hl => ?_)
  refine lv_iload_n hx hb dX2_comes_33 rfl (lv_at hl 2 rfl) ?_
  refine lv_iload_n hx hb dX2_comes_34 rfl (lv_at hl 3 rfl) ?_
  refine va_calli (va_runS (As := [.int (nI d), .int (nI t9)]) (rest := []) ⟨hx, hb, hml, hown, hts⟩ (c_X2_sumOfThing l G cy ad (Sy cy ad n k v o) _ (nI d) (nI t9)) (va_cwS 2 hts gX2_comes_X2_sumOfThing rfl rfl rfl (by decide +kernel) ⟨Nat.le_of_ble_eq_true rfl, Nat.le_of_ble_eq_true rfl⟩) (mP_S hN hE) rfl rfl hl.1 rfl (lv_room (Nat.le_of_ble_eq_true rfl)) dX2_comes_35 ⟨Nat.le_of_ble_eq_true rfl, Nat.le_of_ble_eq_true rfl⟩) hE.2.2.2 (fun q _ h => mE_A hE q h) (mE_A hE) (fun r uq tq H locs ht hvm hw hB hz1 hk1 hS => ?_)
  obtain ⟨rfl, rfl⟩ := hw
  have hE : mE G (mA ad (Sy cy ad n k v o) s.heap.size) s.heap ad (Sy cy ad n k v o) H locs := mE_call hE hB ht hS
  refine lv_istore (lv' := [(8, .int (mLeaf (nI d) (nI t9))), (7, .int (nI (16 + d))), (0, .ref (ad 0)), (1, .int (nI d)), (2, .int (nI t9)), (3, .int (nI a1)), (4, .int (nI a2)), (5, .int (nI a3)), (6, .int (nI a4))]) hx hb dX2_comes_38 hl (by decide) rfl (fun ls hl => ?_)
  refine lv_iload hx hb dX2_comes_40 (lv_at hl 1 rfl) ?_
  refine lv_iload hx hb dX2_comes_42 (lv_at hl 0 rfl) ?_
  refine lv_iload_n hx hb dX2_comes_44 rfl (lv_at hl 5 rfl) ?_
  refine va_calli (va_runS (As := [.int (nI (16 + d)), .int (mLeaf (nI d) (nI t9)), .int (nI a1)]) (rest := []) ⟨hx, hb, hml, hown, hts⟩ (c_X2_sumAbove l G cy ad (Sy cy ad n k v o) _ (16 + d) (mLeaf (nI d) (nI t9)) (nI a1) (by omega)) (va_cwS 3 hts gX2_comes_X2_sumAbove rfl rfl rfl (by decide +kernel) ⟨Nat.le_of_ble_eq_true rfl, Nat.le_of_ble_eq_true rfl⟩) (mP_S hN hE) rfl rfl hl.1 rfl (lv_room (Nat.le_of_ble_eq_true rfl)) dX2_comes_45 ⟨Nat.le_of_ble_eq_true rfl, Nat.le_of_ble_eq_true rfl⟩) hE.2.2.2 (fun q _ h => mE_A hE q h) (mE_A hE) (fun r uq tq H locs ht hvm hw hB hz1 hk1 hS => ?_)
  obtain ⟨rfl, rfl⟩ := hw
  have hE : mE G (mA ad (Sy cy ad n k v o) s.heap.size) s.heap ad (Sy cy ad n k v o) H locs := mE_call hE hB ht hS
  refine lv_istore (lv' := [(8, .int (mAbove (16 + d) (mLeaf (nI d) (nI t9)) (nI a1))), (7, .int (nI (16 + d))), (0, .ref (ad 0)), (1, .int (nI d)), (2, .int (nI t9)), (3, .int (nI a1)), (4, .int (nI a2)), (5, .int (nI a3)), (6, .int (nI a4))]) hx hb dX2_comes_48 hl (by decide) rfl (fun ls hl => ?_)
  refine lv_iload hx hb dX2_comes_50 (lv_at hl 1 rfl) ?_
  refine lv_iconst (v := nI 1) hx hb dX2_comes_52 (by decide) ?_
  refine mv_ishr (z := nI ((16 + d) / 2)) hx hb (pk_shrN (by omega) _ 1 (mu_l 1 (by decide))) dX2_comes_53 ?_
  refine lv_iload hx hb dX2_comes_54 (lv_at hl 0 rfl) ?_
  refine lv_iload hx hb dX2_comes_56 (lv_at hl 6 rfl) ?_
  refine va_calli (va_runS (As := [.int (nI ((16 + d) / 2)), .int (mAbove (16 + d) (mLeaf (nI d) (nI t9)) (nI a1)), .int (nI a2)]) (rest := []) ⟨hx, hb, hml, hown, hts⟩ (c_X2_sumAbove l G cy ad (Sy cy ad n k v o) _ ((16 + d) / 2) (mAbove (16 + d) (mLeaf (nI d) (nI t9)) (nI a1)) (nI a2) (by omega)) (va_cwS 3 hts gX2_comes_X2_sumAbove rfl rfl rfl (by decide +kernel) ⟨Nat.le_of_ble_eq_true rfl, Nat.le_of_ble_eq_true rfl⟩) (mP_S hN hE) rfl rfl hl.1 rfl (lv_room (Nat.le_of_ble_eq_true rfl)) dX2_comes_58 ⟨Nat.le_of_ble_eq_true rfl, Nat.le_of_ble_eq_true rfl⟩) hE.2.2.2 (fun q _ h => mE_A hE q h) (mE_A hE) (fun r uq tq H locs ht hvm hw hB hz1 hk1 hS => ?_)
  obtain ⟨rfl, rfl⟩ := hw
  have hE : mE G (mA ad (Sy cy ad n k v o) s.heap.size) s.heap ad (Sy cy ad n k v o) H locs := mE_call hE hB ht hS
  refine lv_istore (lv' := [(8, .int (mAbove ((16 + d) / 2) (mAbove (16 + d) (mLeaf (nI d) (nI t9)) (nI a1)) (nI a2))), (7, .int (nI (16 + d))), (0, .ref (ad 0)), (1, .int (nI d)), (2, .int (nI t9)), (3, .int (nI a1)), (4, .int (nI a2)), (5, .int (nI a3)), (6, .int (nI a4))]) hx hb dX2_comes_61 hl (by decide) rfl (fun ls hl => ?_)
  refine lv_iload hx hb dX2_comes_63 (lv_at hl 1 rfl) ?_
  refine lv_iconst (v := nI 2) hx hb dX2_comes_65 (by decide) ?_
  refine mv_ishr (z := nI ((16 + d) / 4)) hx hb (pk_shrN (by omega) _ 2 (mu_l 2 (by decide))) dX2_comes_66 ?_
  refine lv_iload hx hb dX2_comes_67 (lv_at hl 0 rfl) ?_
  refine lv_iload hx hb dX2_comes_69 (lv_at hl 7 rfl) ?_
  refine va_calli (va_runS (As := [.int (nI ((16 + d) / 4)), .int (mAbove ((16 + d) / 2) (mAbove (16 + d) (mLeaf (nI d) (nI t9)) (nI a1)) (nI a2)), .int (nI a3)]) (rest := []) ⟨hx, hb, hml, hown, hts⟩ (c_X2_sumAbove l G cy ad (Sy cy ad n k v o) _ ((16 + d) / 4) (mAbove ((16 + d) / 2) (mAbove (16 + d) (mLeaf (nI d) (nI t9)) (nI a1)) (nI a2)) (nI a3) (by omega)) (va_cwS 3 hts gX2_comes_X2_sumAbove rfl rfl rfl (by decide +kernel) ⟨Nat.le_of_ble_eq_true rfl, Nat.le_of_ble_eq_true rfl⟩) (mP_S hN hE) rfl rfl hl.1 rfl (lv_room (Nat.le_of_ble_eq_true rfl)) dX2_comes_71 ⟨Nat.le_of_ble_eq_true rfl, Nat.le_of_ble_eq_true rfl⟩) hE.2.2.2 (fun q _ h => mE_A hE q h) (mE_A hE) (fun r uq tq H locs ht hvm hw hB hz1 hk1 hS => ?_)
  obtain ⟨rfl, rfl⟩ := hw
  have hE : mE G (mA ad (Sy cy ad n k v o) s.heap.size) s.heap ad (Sy cy ad n k v o) H locs := mE_call hE hB ht hS
  refine lv_istore (lv' := [(8, .int (mAbove ((16 + d) / 4) (mAbove ((16 + d) / 2) (mAbove (16 + d) (mLeaf (nI d) (nI t9)) (nI a1)) (nI a2)) (nI a3))), (7, .int (nI (16 + d))), (0, .ref (ad 0)), (1, .int (nI d)), (2, .int (nI t9)), (3, .int (nI a1)), (4, .int (nI a2)), (5, .int (nI a3)), (6, .int (nI a4))]) hx hb dX2_comes_74 hl (by decide) rfl (fun ls hl => ?_)
  refine lv_iload hx hb dX2_comes_76 (lv_at hl 1 rfl) ?_
  refine lv_iconst (v := nI 3) hx hb dX2_comes_78 (by decide) ?_
  refine mv_ishr (z := nI ((16 + d) / 8)) hx hb (pk_shrN (by omega) _ 3 (mu_l 3 (by decide))) dX2_comes_79 ?_
  refine lv_iload hx hb dX2_comes_80 (lv_at hl 0 rfl) ?_
  refine lv_iload hx hb dX2_comes_82 (lv_at hl 8 rfl) ?_
  refine va_calli (va_runS (As := [.int (nI ((16 + d) / 8)), .int (mAbove ((16 + d) / 4) (mAbove ((16 + d) / 2) (mAbove (16 + d) (mLeaf (nI d) (nI t9)) (nI a1)) (nI a2)) (nI a3)), .int (nI a4)]) (rest := []) ⟨hx, hb, hml, hown, hts⟩ (c_X2_sumAbove l G cy ad (Sy cy ad n k v o) _ ((16 + d) / 8) (mAbove ((16 + d) / 4) (mAbove ((16 + d) / 2) (mAbove (16 + d) (mLeaf (nI d) (nI t9)) (nI a1)) (nI a2)) (nI a3)) (nI a4) (by omega)) (va_cwS 3 hts gX2_comes_X2_sumAbove rfl rfl rfl (by decide +kernel) ⟨Nat.le_of_ble_eq_true rfl, Nat.le_of_ble_eq_true rfl⟩) (mP_S hN hE) rfl rfl hl.1 rfl (lv_room (Nat.le_of_ble_eq_true rfl)) dX2_comes_84 ⟨Nat.le_of_ble_eq_true rfl, Nat.le_of_ble_eq_true rfl⟩) hE.2.2.2 (fun q _ h => mE_A hE q h) (mE_A hE) (fun r uq tq H locs ht hvm hw hB hz1 hk1 hS => ?_)
  obtain ⟨rfl, rfl⟩ := hw
  have hE : mE G (mA ad (Sy cy ad n k v o) s.heap.size) s.heap ad (Sy cy ad n k v o) H locs := mE_call hE hB ht hS
  exact mx_iret hx hb hr hE hlocks ⟨rfl, rfl⟩ dX2_comes_87

set_option maxHeartbeats 4000000 in
set_option maxRecDepth 100000 in
/-- proves -/
theorem c_X2_proves (l : Launch) (G : va_G) (cy : Nat → ClassId) (ad : Nat → Nat) (n k : Nat) (v : Nat → Nat → Int32) (o : mC) (hn : n ≤ 6) (hk : k ≤ 20) (sz : Nat) (j : Nat) (h_j : j < k) (d t9 : Nat) (hd : d < 16) (ht9 : t9 < 10000) (cu : Nat) (h_cu : cu < n) (hsc : v (400 + j) 0 = nI cu) : mMi l yX2_proves wsX2_proves ({ frames := 9, cells := 0, slots := 0, locals := 180 }) G cy ad (Sy cy ad n k v o) sz [.ref (ad 0), .int (nI j), .int (nI d), .int (nI t9)] 0 0 (fun (r : Int32) u => r = mb (mPrf (v (300 + cu)) d (nI t9) 4 = v (400 + j) 1) ∧ u = (ad, Sy cy ad n k v o)) := by
  refine Met.ofW (cc := cX2_proves) (maxL := 8) (ret := (some .boolean)) (by decide) rfl ?_
  intro p e s m args below meth c s₁ B hml hv
  obtain ⟨rfl, hv⟩ := hv
  have hsz := hv.1
  subst hsz
  have hN := hv.2.2
  have hE := mP_E hv
  have hx := B.exec
  have hb := B.bytes
  have hr := B.returns
  have hts := atoms_spec (ws := wsX2_proves) B.pre
  have hown : s.vm.findClass RX2 = some m.cls := findClass_of_methodNamed B.named
  have hlocks := B.notSynchronized
  have hiX2 : ∀ w ∈ wsX20, w ∈ wsX2_proves := by decide +kernel
  have hiX1 : ∀ w ∈ wsX10, w ∈ wsX2_proves := by decide +kernel
  have hiX0 : ∀ w ∈ wsX00, w ∈ wsX2_proves := by decide +kernel
  have hl := lv_entry ([.ref (ad 0), .int (nI j), .int (nI d), .int (nI t9)]) (n := 8) (Nat.le_of_ble_eq_true rfl)
  rw [lg_entry_eq]
  generalize (lg_sl ([.ref (ad 0), .int (nI j), .int (nI d), .int (nI t9)]) ++ List.replicate (8 - (lg_sl ([.ref (ad 0), .int (nI j), .int (nI d), .int (nI t9)])).length) Slot.unset).toArray = ls at hl ⊢
  have hl : lv_has ls 8 [(0, .ref (ad 0)), (1, .int (nI j)), (2, .int (nI d)), (3, .int (nI t9))] := hl
  refine lv_aload_n hx hb dX2_proves_0 rfl (lv_at hl 0 rfl) ?_
  refine lv_iload_n hx hb dX2_proves_1 rfl (lv_at hl 1 rfl) ?_
  refine va_callq (va_runV (As := [.int (nI j)]) (rest := []) ⟨hx, hb, hml, hown, hts⟩ (c_X2_findSeal l G cy ad n k v o hn hk _ j h_j) (cwV 1 hts gX2_proves_X2_findSeal rfl rfl rfl (by decide +kernel) ⟨Nat.le_of_ble_eq_true rfl, Nat.le_of_ble_eq_true rfl⟩) (mP_V (r := (RX2, TX2, 5)) hN hE S_0 rfl) rfl rfl hl.1 rfl (lv_room (Nat.le_of_ble_eq_true rfl)) dX2_proves_2 ⟨Nat.le_of_ble_eq_true rfl, Nat.le_of_ble_eq_true rfl⟩) hE.2.2.2 (fun q _ h => mE_A hE q h) (mE_A hE) (fun r uq tq H locs ht hvm hw hB hz1 hk1 hS => ?_)
  obtain ⟨rfl, rfl⟩ := hw
  have hE : mE G (mA ad (Sy cy ad n k v o) s.heap.size) s.heap ad (Sy cy ad n k v o) H locs := mE_call hE hB ht hS
  refine lv_astore (lv' := [(4, .ref (ad (400 + j))), (0, .ref (ad 0)), (1, .int (nI j)), (2, .int (nI d)), (3, .int (nI t9))]) hx hb dX2_proves_5 hl (by decide) rfl (fun ls hl => ?_)
  refine lv_iload_n hx hb dX2_proves_7 rfl (lv_at hl 3 rfl) ?_
  refine va_callv (va_runS (As := [.int (nI d)]) (rest := []) ⟨hx, hb, hml, hown, hts⟩ (c_X2_checkDrawer l G cy ad (Sy cy ad n k v o) _ d (by omega)) (va_cwS 1 hts gX2_proves_X2_checkDrawer rfl rfl rfl (by decide +kernel) ⟨Nat.le_of_ble_eq_true rfl, Nat.le_of_ble_eq_true rfl⟩) (mP_S hN hE) rfl rfl hl.1 rfl (lv_room (Nat.le_of_ble_eq_true rfl)) dX2_proves_8 ⟨Nat.le_of_ble_eq_true rfl, Nat.le_of_ble_eq_true rfl⟩) hE.2.2.2 (fun q _ h => mE_A hE q h) (mE_A hE) (fun uq tq H locs ht hvm hw hB hz1 hk1 hS => ?_)
  subst hw
  have hE : mE G (mA ad (Sy cy ad n k v o) s.heap.size) s.heap ad (Sy cy ad n k v o) H locs := mE_call hE hB ht hS
  refine lv_iload_n hx hb dX2_proves_11 rfl (lv_at hl 4 rfl) ?_
  refine va_callv (va_runS (As := [.int (nI t9)]) (rest := []) ⟨hx, hb, hml, hown, hts⟩ (c_X2_checkThing l G cy ad (Sy cy ad n k v o) _ t9 (by omega)) (va_cwS 1 hts gX2_proves_X2_checkThing rfl rfl rfl (by decide +kernel) ⟨Nat.le_of_ble_eq_true rfl, Nat.le_of_ble_eq_true rfl⟩) (mP_S hN hE) rfl rfl hl.1 rfl (lv_room (Nat.le_of_ble_eq_true rfl)) dX2_proves_12 ⟨Nat.le_of_ble_eq_true rfl, Nat.le_of_ble_eq_true rfl⟩) hE.2.2.2 (fun q _ h => mE_A hE q h) (mE_A hE) (fun uq tq H locs ht hvm hw hB hz1 hk1 hS => ?_)
  subst hw
  have hE : mE G (mA ad (Sy cy ad n k v o) s.heap.size) s.heap ad (Sy cy ad n k v o) H locs := mE_call hE hB ht hS
  refine lv_aload_n hx hb dX2_proves_15 rfl (lv_at hl 1 rfl) ?_
  refine lv_aload hx hb dX2_proves_16 (lv_at hl 0 rfl) ?_
  refine va_getN (D := G) (ci := 1) (v := .int (nI cu)) (C := RX1) (T := TX1) (N := 3) (host := RX2) hx hb hts hiX1 hown hN.1 (mE_P1 hE (S_soc hn h_j hsc)) 0 rfl rfl 0 (by decide) (va_Nw.use rfl (hN.2.1 (.fieldLinkNest RX2 109 RX1 "cupboard" "I" RX2) (by decide +kernel))) (fun _ h9 => h9) rfl dX2_proves_18 ?_
  refine va_callq (va_runV (As := [.int (nI cu)]) (rest := []) ⟨hx, hb, hml, hown, hts⟩ (c_X2_findCupboard l G cy ad n k v o hn hk _ cu h_cu) (cwV 1 hts gX2_proves_X2_findCupboard rfl rfl rfl (by decide +kernel) ⟨Nat.le_of_ble_eq_true rfl, Nat.le_of_ble_eq_true rfl⟩) (mP_V (r := (RX2, TX2, 5)) hN hE S_0 rfl) rfl rfl hl.1 rfl (lv_room (Nat.le_of_ble_eq_true rfl)) dX2_proves_21 ⟨Nat.le_of_ble_eq_true rfl, Nat.le_of_ble_eq_true rfl⟩) hE.2.2.2 (fun q _ h => mE_A hE q h) (mE_A hE) (fun r uq tq H locs ht hvm hw hB hz1 hk1 hS => ?_)
  obtain ⟨rfl, rfl⟩ := hw
  have hE : mE G (mA ad (Sy cy ad n k v o) s.heap.size) s.heap ad (Sy cy ad n k v o) H locs := mE_call hE hB ht hS
  refine lv_astore (lv' := [(5, .ref (ad (100 + cu))), (4, .ref (ad (400 + j))), (0, .ref (ad 0)), (1, .int (nI j)), (2, .int (nI d)), (3, .int (nI t9))]) hx hb dX2_proves_24 hl (by decide) rfl (fun ls hl => ?_)
  refine lv_iload_n hx hb dX2_proves_26 rfl (lv_at hl 4 rfl) ?_
  refine lv_iload_n hx hb dX2_proves_27 rfl (lv_at hl 5 rfl) ?_
  refine va_calli (va_runS (As := [.int (nI d), .int (nI t9)]) (rest := []) ⟨hx, hb, hml, hown, hts⟩ (c_X2_sumOfThing l G cy ad (Sy cy ad n k v o) _ (nI d) (nI t9)) (va_cwS 2 hts gX2_proves_X2_sumOfThing rfl rfl rfl (by decide +kernel) ⟨Nat.le_of_ble_eq_true rfl, Nat.le_of_ble_eq_true rfl⟩) (mP_S hN hE) rfl rfl hl.1 rfl (lv_room (Nat.le_of_ble_eq_true rfl)) dX2_proves_28 ⟨Nat.le_of_ble_eq_true rfl, Nat.le_of_ble_eq_true rfl⟩) hE.2.2.2 (fun q _ h => mE_A hE q h) (mE_A hE) (fun r uq tq H locs ht hvm hw hB hz1 hk1 hS => ?_)
  obtain ⟨rfl, rfl⟩ := hw
  have hE : mE G (mA ad (Sy cy ad n k v o) s.heap.size) s.heap ad (Sy cy ad n k v o) H locs := mE_call hE hB ht hS
  refine lv_istore (lv' := [(6, .int (mLeaf (nI d) (nI t9))), (5, .ref (ad (100 + cu))), (4, .ref (ad (400 + j))), (0, .ref (ad 0)), (1, .int (nI j)), (2, .int (nI d)), (3, .int (nI t9))]) hx hb dX2_proves_31 hl (by decide) rfl (fun ls hl => ?_)
  refine lv_iconst (v := nI 0) hx hb dX2_proves_33 (by decide) ?_
  refine lv_istore (lv' := [(7, .int (nI 0)), (6, .int (mLeaf (nI d) (nI t9))), (5, .ref (ad (100 + cu))), (4, .ref (ad (400 + j))), (0, .ref (ad 0)), (1, .int (nI j)), (2, .int (nI d)), (3, .int (nI t9))]) hx hb dX2_proves_34 hl (by decide) rfl (fun ls hl => ?_)
  refine mx_loop (β := Nat) (fun n9 (z9 : Nat) H locs ls => n9 = 4 - z9 ∧ (z9 ≤ 4) ∧ mE G (mA ad (Sy cy ad n k v o) s.heap.size) s.heap ad (Sy cy ad n k v o) H locs ∧ lv_has ls 8 [(7, .int (nI z9)), (6, .int (mPrf (v (300 + cu)) d (nI t9) z9)), (5, .ref (ad (100 + cu))), (4, .ref (ad (400 + j))), (0, .ref (ad 0)), (1, .int (nI j)), (2, .int (nI d)), (3, .int (nI t9))]) ?_ (4 - 0) (0) _ _ _ ⟨rfl, (by omega), hE, lv_sub hl [0, 1, 2, 3, 4, 5, 6, 7] rfl⟩
  intro n9 z9 H locs ls hI ih1
  obtain ⟨hn2, hle, hE, hl⟩ := hI
  have hE : mE G (mA ad (Sy cy ad n k v o) s.heap.size) s.heap ad (Sy cy ad n k v o) H locs := hE
  have hl : lv_has ls 8 [(7, .int (nI z9)), (6, .int (mPrf (v (300 + cu)) d (nI t9) z9)), (5, .ref (ad (100 + cu))), (4, .ref (ad (400 + j))), (0, .ref (ad 0)), (1, .int (nI j)), (2, .int (nI d)), (3, .int (nI t9))] := hl
  refine lv_iload hx hb dX2_proves_36 (lv_at hl 0 rfl) ?_
  refine lv_iconst (v := nI 4) hx hb dX2_proves_38 (by decide) ?_
  refine mv_ge (tgt := 70) hx hb (by omega) (by omega) dX2_proves_39 (by decide) (fun c3 => ?_) (fun c3 => ?_)
  · skip
    have e9 : z9 = 4 := by omega
    subst e9
    have hl : lv_has ls 8 [(7, .int (nI 4)), (6, .int (mPrf (v (300 + cu)) d (nI t9) 4)), (5, .ref (ad (100 + cu))), (4, .ref (ad (400 + j))), (0, .ref (ad 0)), (1, .int (nI j)), (2, .int (nI d)), (3, .int (nI t9))] := hl
    refine lv_iload hx hb dX2_proves_70 (lv_at hl 1 rfl) ?_
    refine lv_aload hx hb dX2_proves_72 (lv_at hl 3 rfl) ?_
    refine va_getN (D := G) (ci := 1) (v := .int (v (400 + j) 1)) (C := RX1) (T := TX1) (N := 3) (host := RX2) hx hb hts hiX1 hown hN.1 (mE_P1 hE (S_soc hn h_j hsc)) 0 rfl rfl 1 (by decide) (va_Nw.use rfl (hN.2.1 (.fieldLinkNest RX2 112 RX1 "root" "I" RX2) (by decide +kernel))) (fun _ h9 => h9) rfl dX2_proves_74 ?_
    refine lv_icmp_ne (tgt := 84) hx hb dX2_proves_77 (by decide) (fun c4 => ?_) (fun c4 => ?_)
    · skip
      refine lv_iconst (v := nI 0) hx hb dX2_proves_84 (by decide) ?_
      exact mx_zret hx hb hr rfl hE hlocks ⟨(mb_f c4).symm, rfl⟩ dX2_proves_85
    · skip
      refine lv_iconst (v := nI 1) hx hb dX2_proves_80 (by decide) ?_
      refine lv_goto (tgt := 85) hx hb dX2_proves_81 (by decide) ?_
      exact mx_zret hx hb hr rfl hE hlocks ⟨(mb_t c4).symm, rfl⟩ dX2_proves_85
  · skip
    refine lv_bipush (v := nI 16) hx hb dX2_proves_42 (by decide) ?_
    refine lv_iload_n hx hb dX2_proves_44 rfl (lv_at hl 6 rfl) ?_
    refine mv_iadd (z := nI (16 + d)) hx hb (nI_add _ _) dX2_proves_45 ?_
    refine lv_iload hx hb dX2_proves_46 (lv_at hl 0 rfl) ?_
    refine mv_ishr (z := nI ((16 + d) / 2 ^ z9)) hx hb (pk_shrN (by omega) _ _ (mu_l z9 (by omega))) dX2_proves_48 ?_
    refine lv_iload hx hb dX2_proves_49 (lv_at hl 1 rfl) ?_
    refine lv_aload hx hb dX2_proves_51 (lv_at hl 2 rfl) ?_
    refine lv_iload_n hx hb dX2_proves_53 rfl (lv_at hl 6 rfl) ?_
    refine lv_iload hx hb dX2_proves_54 (lv_at hl 0 rfl) ?_
    refine va_calli (va_runVN (As := [.int (nI d), .int (nI z9)]) (rest := [.int (mPrf (v (300 + cu)) d (nI t9) z9), .int (nI ((16 + d) / 2 ^ z9))]) ⟨hx, hb, hml, hown, hts⟩ (c_X0_proofSum l G cy ad n k v o hn hk _ cu d z9 h_cu (by omega) (by omega)) ⟨va_cnB 2 hts gX2_proves_X0_proofSum_n117 rfl rfl rfl (hN.2.1 (.methodLinkNest RX2 117 yX0_proofSum RX2) (by decide +kernel)) (hts (.initialized RX0) (by decide +kernel)) (by decide +kernel) ⟨Nat.le_of_ble_eq_true rfl, Nat.le_of_ble_eq_true rfl⟩, (hts (.instanceMethod yX0_proofSum) (by decide +kernel)), (hts (.selects RX0 yX0_proofSum yX0_proofSum) (by decide +kernel))⟩ (mP_V (r := (RX0, TX0, 3)) hN hE (S_ce hn h_cu rfl) rfl) rfl rfl hl.1 rfl (lv_room (Nat.le_of_ble_eq_true rfl)) dX2_proves_56 ⟨Nat.le_of_ble_eq_true rfl, Nat.le_of_ble_eq_true rfl⟩) hE.2.2.2 (fun q _ h => mE_A hE q h) (mE_A hE) (fun r uq tq H locs ht hvm hw hB hz1 hk1 hS => ?_)
    obtain ⟨rfl, rfl⟩ := hw
    have hE : mE G (mA ad (Sy cy ad n k v o) s.heap.size) s.heap ad (Sy cy ad n k v o) H locs := mE_call hE hB ht hS
    refine va_calli (va_runS (As := [.int (nI ((16 + d) / 2 ^ z9)), .int (mPrf (v (300 + cu)) d (nI t9) z9), .int (v (300 + cu) (mBes d z9))]) (rest := []) ⟨hx, hb, hml, hown, hts⟩ (c_X2_sumAbove l G cy ad (Sy cy ad n k v o) _ ((16 + d) / 2 ^ z9) (mPrf (v (300 + cu)) d (nI t9) z9) (v (300 + cu) (mBes d z9)) (by have := Nat.div_le_self (16 + d) (2 ^ z9); omega)) (va_cwS 3 hts gX2_proves_X2_sumAbove rfl rfl rfl (by decide +kernel) ⟨Nat.le_of_ble_eq_true rfl, Nat.le_of_ble_eq_true rfl⟩) (mP_S hN hE) rfl rfl hl.1 rfl (lv_room (Nat.le_of_ble_eq_true rfl)) dX2_proves_59 ⟨Nat.le_of_ble_eq_true rfl, Nat.le_of_ble_eq_true rfl⟩) hE.2.2.2 (fun q _ h => mE_A hE q h) (mE_A hE) (fun r uq tq H locs ht hvm hw hB hz1 hk1 hS => ?_)
    obtain ⟨rfl, rfl⟩ := hw
    have hE : mE G (mA ad (Sy cy ad n k v o) s.heap.size) s.heap ad (Sy cy ad n k v o) H locs := mE_call hE hB ht hS
    refine lv_istore (lv' := [(6, .int (mAbove ((16 + d) / 2 ^ z9) (mPrf (v (300 + cu)) d (nI t9) z9) (v (300 + cu) (mBes d z9)))), (7, .int (nI z9)), (5, .ref (ad (100 + cu))), (4, .ref (ad (400 + j))), (0, .ref (ad 0)), (1, .int (nI j)), (2, .int (nI d)), (3, .int (nI t9))]) hx hb dX2_proves_62 hl (by decide) rfl (fun ls hl => ?_)
    have hl : lv_has ls 8 [(6, .int (mPrf (v (300 + cu)) d (nI t9) (z9 + 1))), (7, .int (nI z9)), (5, .ref (ad (100 + cu))), (4, .ref (ad (400 + j))), (0, .ref (ad 0)), (1, .int (nI j)), (2, .int (nI d)), (3, .int (nI t9))] := hl
    refine lv_iinc (v := nI (z9 + 1)) (lv' := [(7, .int (nI (z9 + 1))), (6, .int (mPrf (v (300 + cu)) d (nI t9) (z9 + 1))), (5, .ref (ad (100 + cu))), (4, .ref (ad (400 + j))), (0, .ref (ad 0)), (1, .int (nI j)), (2, .int (nI d)), (3, .int (nI t9))]) hx hb dX2_proves_64 hl (k := 1) rfl (nI_add _ _) (by decide) rfl (fun ls hl => ?_)
    refine lv_goto (tgt := 36) hx hb dX2_proves_67 (by decide) ?_
    exact ih1 (4 - (z9 + 1)) (z9 + 1) _ _ _ (by rw [hn2]; omega) ⟨rfl, (by omega), hE, lv_sub hl [0, 1, 2, 3, 4, 5, 6, 7] rfl⟩

set_option maxHeartbeats 4000000 in
set_option maxRecDepth 100000 in
/-- mend -/
theorem c_X2_mend (l : Launch) (G : va_G) (cy : Nat → ClassId) (ad : Nat → Nat) (n k : Nat) (v : Nat → Nat → Int32) (o : mC) (hn : n ≤ 6) (hk : k ≤ 20) (sz : Nat) (a b : Nat) (h_a : a < n) (h_b : b < n) : mMi l yX2_mend wsX2_mend ({ frames := 10, cells := 0, slots := 0, locals := 220 }) G cy ad (Sy cy ad n k v o) sz [.ref (ad 0), .int (nI a), .int (nI b)] 0 0 (fun (r : Int32) u => r = mBc (nI (mDr (mLook (v (300 + a)) (v (300 + b)) 15) (v (300 + a)) (v (300 + b)) 16)) ∧ u = (ad, Sy cy ad n k (mMend v a b (mDr (mLook (v (300 + a)) (v (300 + b)) 15) (v (300 + a)) (v (300 + b)) 16) 16) o)) := by
  refine Met.ofW (cc := cX2_mend) (maxL := 7) (ret := (some .int)) (by decide) rfl ?_
  intro p e s m args below meth c s₁ B hml hv
  obtain ⟨rfl, hv⟩ := hv
  have hsz := hv.1
  subst hsz
  have hN := hv.2.2
  have hE := mP_E hv
  have hx := B.exec
  have hb := B.bytes
  have hr := B.returns
  have hts := atoms_spec (ws := wsX2_mend) B.pre
  have hown : s.vm.findClass RX2 = some m.cls := findClass_of_methodNamed B.named
  have hlocks := B.notSynchronized
  have hiX2 : ∀ w ∈ wsX20, w ∈ wsX2_mend := by decide +kernel
  have hiX0 : ∀ w ∈ wsX00, w ∈ wsX2_mend := by decide +kernel
  have hl := lv_entry ([.ref (ad 0), .int (nI a), .int (nI b)]) (n := 7) (Nat.le_of_ble_eq_true rfl)
  rw [lg_entry_eq]
  generalize (lg_sl ([.ref (ad 0), .int (nI a), .int (nI b)]) ++ List.replicate (7 - (lg_sl ([.ref (ad 0), .int (nI a), .int (nI b)])).length) Slot.unset).toArray = ls at hl ⊢
  have hl : lv_has ls 7 [(0, .ref (ad 0)), (1, .int (nI a)), (2, .int (nI b))] := hl
  refine lv_aload_n hx hb dX2_mend_0 rfl (lv_at hl 0 rfl) ?_
  refine lv_iload_n hx hb dX2_mend_1 rfl (lv_at hl 1 rfl) ?_
  refine va_callq (va_runV (As := [.int (nI a)]) (rest := []) ⟨hx, hb, hml, hown, hts⟩ (c_X2_findCupboard l G cy ad n k v o hn hk _ a h_a) (cwV 1 hts gX2_mend_X2_findCupboard rfl rfl rfl (by decide +kernel) ⟨Nat.le_of_ble_eq_true rfl, Nat.le_of_ble_eq_true rfl⟩) (mP_V (r := (RX2, TX2, 5)) hN hE S_0 rfl) rfl rfl hl.1 rfl (lv_room (Nat.le_of_ble_eq_true rfl)) dX2_mend_2 ⟨Nat.le_of_ble_eq_true rfl, Nat.le_of_ble_eq_true rfl⟩) hE.2.2.2 (fun q _ h => mE_A hE q h) (mE_A hE) (fun r uq tq H locs ht hvm hw hB hz1 hk1 hS => ?_)
  obtain ⟨rfl, rfl⟩ := hw
  have hE : mE G (mA ad (Sy cy ad n k v o) s.heap.size) s.heap ad (Sy cy ad n k v o) H locs := mE_call hE hB ht hS
  refine lv_astore_n (lv' := [(3, .ref (ad (100 + a))), (0, .ref (ad 0)), (1, .int (nI a)), (2, .int (nI b))]) hx hb dX2_mend_5 rfl hl (by decide) rfl (fun ls hl => ?_)
  refine lv_aload_n hx hb dX2_mend_6 rfl (lv_at hl 1 rfl) ?_
  refine lv_iload_n hx hb dX2_mend_7 rfl (lv_at hl 3 rfl) ?_
  refine va_callq (va_runV (As := [.int (nI b)]) (rest := []) ⟨hx, hb, hml, hown, hts⟩ (c_X2_findCupboard l G cy ad n k v o hn hk _ b h_b) (cwV 1 hts gX2_mend_X2_findCupboard rfl rfl rfl (by decide +kernel) ⟨Nat.le_of_ble_eq_true rfl, Nat.le_of_ble_eq_true rfl⟩) (mP_V (r := (RX2, TX2, 5)) hN hE S_0 rfl) rfl rfl hl.1 rfl (lv_room (Nat.le_of_ble_eq_true rfl)) dX2_mend_8 ⟨Nat.le_of_ble_eq_true rfl, Nat.le_of_ble_eq_true rfl⟩) hE.2.2.2 (fun q _ h => mE_A hE q h) (mE_A hE) (fun r uq tq H locs ht hvm hw hB hz1 hk1 hS => ?_)
  obtain ⟨rfl, rfl⟩ := hw
  have hE : mE G (mA ad (Sy cy ad n k v o) s.heap.size) s.heap ad (Sy cy ad n k v o) H locs := mE_call hE hB ht hS
  refine lv_astore (lv' := [(4, .ref (ad (100 + b))), (3, .ref (ad (100 + a))), (0, .ref (ad 0)), (1, .int (nI a)), (2, .int (nI b))]) hx hb dX2_mend_11 hl (by decide) rfl (fun ls hl => ?_)
  refine lv_aload_n hx hb dX2_mend_13 rfl (lv_at hl 1 rfl) ?_
  refine va_getN (D := G) (ci := 0) (v := .ref (ad (300 + a))) (C := RX0) (T := TX0) (N := 3) (host := RX2) hx hb hts hiX0 hown hN.1 (mE_P1 hE (S_ce hn h_a rfl)) 0 rfl rfl 1 (by decide) (va_Nw.use rfl (hN.2.1 (.fieldLinkNest RX2 55 RX0 "sums" "[I" RX2) (by decide +kernel))) (fun _ h9 => h9) rfl dX2_mend_14 ?_
  refine lv_aload hx hb dX2_mend_17 (lv_at hl 0 rfl) ?_
  refine va_getN (D := G) (ci := 0) (v := .ref (ad (300 + b))) (C := RX0) (T := TX0) (N := 3) (host := RX2) hx hb hts hiX0 hown hN.1 (mE_P1 hE (S_ce hn h_b rfl)) 0 rfl rfl 1 (by decide) (va_Nw.use rfl (hN.2.1 (.fieldLinkNest RX2 55 RX0 "sums" "[I" RX2) (by decide +kernel))) (fun _ h9 => h9) rfl dX2_mend_19 ?_
  refine va_calli (va_runS (As := [.ref (ad (300 + a)), .ref (ad (300 + b))]) (rest := []) ⟨hx, hb, hml, hown, hts⟩ (c_X2_drawersApart l G cy ad n k v o hn hk _ (300 + a) (300 + b) (fun g => sy_s hn h_a) (fun g => sy_s hn h_b)) (va_cwS 2 hts gX2_mend_X2_drawersApart rfl rfl rfl (by decide +kernel) ⟨Nat.le_of_ble_eq_true rfl, Nat.le_of_ble_eq_true rfl⟩) (mP_S hN hE) rfl rfl hl.1 rfl (lv_room (Nat.le_of_ble_eq_true rfl)) dX2_mend_22 ⟨Nat.le_of_ble_eq_true rfl, Nat.le_of_ble_eq_true rfl⟩) hE.2.2.2 (fun q _ h => mE_A hE q h) (mE_A hE) (fun r uq tq H locs ht hvm hw hB hz1 hk1 hS => ?_)
  obtain ⟨rfl, rfl⟩ := hw
  have hE : mE G (mA ad (Sy cy ad n k v o) s.heap.size) s.heap ad (Sy cy ad n k v o) H locs := mE_call hE hB ht hS
  refine lv_istore (lv' := [(5, .int (nI (mDr (mLook (v (300 + a)) (v (300 + b)) 15) (v (300 + a)) (v (300 + b)) 16))), (4, .ref (ad (100 + b))), (3, .ref (ad (100 + a))), (0, .ref (ad 0)), (1, .int (nI a)), (2, .int (nI b))]) hx hb dX2_mend_25 hl (by decide) rfl (fun ls hl => ?_)
  refine lv_iconst (v := nI 0) hx hb dX2_mend_27 (by decide) ?_
  refine lv_istore (lv' := [(6, .int (nI 0)), (5, .int (nI (mDr (mLook (v (300 + a)) (v (300 + b)) 15) (v (300 + a)) (v (300 + b)) 16))), (4, .ref (ad (100 + b))), (3, .ref (ad (100 + a))), (0, .ref (ad 0)), (1, .int (nI a)), (2, .int (nI b))]) hx hb dX2_mend_28 hl (by decide) rfl (fun ls hl => ?_)
  refine mx_loop (β := Nat) (fun n9 (d : Nat) H locs ls => n9 = 16 - d ∧ (d ≤ 16) ∧ mE G (mA ad (Sy cy ad n k v o) s.heap.size) s.heap ad (Sy cy ad n k (mMend v a b (mDr (mLook (v (300 + a)) (v (300 + b)) 15) (v (300 + a)) (v (300 + b)) 16) d) o) H locs ∧ lv_has ls 7 [(6, .int (nI d)), (5, .int (nI (mDr (mLook (v (300 + a)) (v (300 + b)) 15) (v (300 + a)) (v (300 + b)) 16))), (4, .ref (ad (100 + b))), (3, .ref (ad (100 + a))), (0, .ref (ad 0))]) ?_ (16 - 0) (0) _ _ _ ⟨rfl, (by omega), hE, lv_sub hl [0, 1, 2, 3, 4] rfl⟩
  intro n9 d H locs ls hI ih1
  obtain ⟨hn2, hle, hE, hl⟩ := hI
  have hm := mDr_lt (mLook (v (300 + a)) (v (300 + b)) 15) (v (300 + a)) (v (300 + b)) 16 (by decide)
  have hE : mE G (mA ad (Sy cy ad n k v o) s.heap.size) s.heap ad (Sy cy ad n k (mMend v a b (mDr (mLook (v (300 + a)) (v (300 + b)) 15) (v (300 + a)) (v (300 + b)) 16) d) o) H locs := hE
  have hl : lv_has ls 7 [(6, .int (nI d)), (5, .int (nI (mDr (mLook (v (300 + a)) (v (300 + b)) 15) (v (300 + a)) (v (300 + b)) 16))), (4, .ref (ad (100 + b))), (3, .ref (ad (100 + a))), (0, .ref (ad 0))] := hl
  refine lv_iload hx hb dX2_mend_30 (lv_at hl 0 rfl) ?_
  refine lv_bipush (v := nI 16) hx hb dX2_mend_32 (by decide) ?_
  refine mv_ge (tgt := 67) hx hb (by omega) (by omega) dX2_mend_34 (by decide) (fun c3 => ?_) (fun c3 => ?_)
  · skip
    have e9 : d = 16 := by omega
    subst e9
    refine lv_iload hx hb dX2_mend_67 (lv_at hl 1 rfl) ?_
    refine va_calli (va_runS (As := [.int (nI (mDr (mLook (v (300 + a)) (v (300 + b)) 15) (v (300 + a)) (v (300 + b)) 16))]) (rest := []) ⟨hx, hb, hml, hown, hts⟩ (c_J6_bitCount l G cy ad (Sy cy ad n k (mMend v a b (mDr (mLook (v (300 + a)) (v (300 + b)) 15) (v (300 + a)) (v (300 + b)) 16) 16) o) _ (nI (mDr (mLook (v (300 + a)) (v (300 + b)) 15) (v (300 + a)) (v (300 + b)) 16))) (va_cwS 1 hts gX2_mend_J6_bitCount_0f7a4 rfl rfl rfl (by decide +kernel) ⟨Nat.le_of_ble_eq_true rfl, Nat.le_of_ble_eq_true rfl⟩) (mP_S hN hE) rfl rfl hl.1 rfl (lv_room (Nat.le_of_ble_eq_true rfl)) dX2_mend_69 ⟨Nat.le_of_ble_eq_true rfl, Nat.le_of_ble_eq_true rfl⟩) hE.2.2.2 (fun q _ h => mE_A hE q h) (mE_A hE) (fun r uq tq H locs ht hvm hw hB hz1 hk1 hS => ?_)
    obtain ⟨rfl, rfl⟩ := hw
    have hE : mE G (mA ad (Sy cy ad n k v o) s.heap.size) s.heap ad (Sy cy ad n k (mMend v a b (mDr (mLook (v (300 + a)) (v (300 + b)) 15) (v (300 + a)) (v (300 + b)) 16) 16) o) H locs := mE_call hE hB ht hS
    exact mx_iret hx hb hr hE hlocks ⟨rfl, rfl⟩ dX2_mend_72
  · skip
    refine lv_iload hx hb dX2_mend_37 (lv_at hl 1 rfl) ?_
    refine lv_iload hx hb dX2_mend_39 (lv_at hl 0 rfl) ?_
    refine va_calli (va_runS (As := [.int (nI (mDr (mLook (v (300 + a)) (v (300 + b)) 15) (v (300 + a)) (v (300 + b)) 16)), .int (nI d)]) (rest := []) ⟨hx, hb, hml, hown, hts⟩ (c_X2_hasBit l G cy ad (Sy cy ad n k (mMend v a b (mDr (mLook (v (300 + a)) (v (300 + b)) 15) (v (300 + a)) (v (300 + b)) 16) d) o) _ (mDr (mLook (v (300 + a)) (v (300 + b)) 15) (v (300 + a)) (v (300 + b)) 16) d (Nat.lt_trans hm (by decide)) (by omega)) (va_cwS 2 hts gX2_mend_X2_hasBit rfl rfl rfl (by decide +kernel) ⟨Nat.le_of_ble_eq_true rfl, Nat.le_of_ble_eq_true rfl⟩) (mP_S hN hE) rfl rfl hl.1 rfl (lv_room (Nat.le_of_ble_eq_true rfl)) dX2_mend_41 ⟨Nat.le_of_ble_eq_true rfl, Nat.le_of_ble_eq_true rfl⟩) hE.2.2.2 (fun q _ h => mE_A hE q h) (mE_A hE) (fun r uq tq H locs ht hvm hw hB hz1 hk1 hS => ?_)
    obtain ⟨rfl, rfl⟩ := hw
    have hE : mE G (mA ad (Sy cy ad n k v o) s.heap.size) s.heap ad (Sy cy ad n k (mMend v a b (mDr (mLook (v (300 + a)) (v (300 + b)) 15) (v (300 + a)) (v (300 + b)) 16) d) o) H locs := mE_call hE hB ht hS
    refine lv_if_eq (tgt := 61) hx hb dX2_mend_44 (by decide) (fun c4 => ?_) (fun c4 => ?_)
    · skip
      have c4 := mb_0.mp c4
      have e9 : (mMend v a b (mDr (mLook (v (300 + a)) (v (300 + b)) 15) (v (300 + a)) (v (300 + b)) 16) d) = mMend v a b (mDr (mLook (v (300 + a)) (v (300 + b)) 15) (v (300 + a)) (v (300 + b)) 16) (d + 1) := by simp only [mMend]; rw [if_neg c4]
      rw [e9] at hE
      refine lv_iinc (v := nI (d + 1)) (lv' := [(6, .int (nI (d + 1))), (5, .int (nI (mDr (mLook (v (300 + a)) (v (300 + b)) 15) (v (300 + a)) (v (300 + b)) 16))), (4, .ref (ad (100 + b))), (3, .ref (ad (100 + a))), (0, .ref (ad 0))]) hx hb dX2_mend_61 hl (k := 0) rfl (nI_add _ _) (by decide) rfl (fun ls hl => ?_)
      refine lv_goto (tgt := 30) hx hb dX2_mend_64 (by decide) ?_
      exact ih1 (16 - (d + 1)) (d + 1) _ _ _ (by rw [hn2]; omega) ⟨rfl, (by omega), hE, lv_sub hl [0, 1, 2, 3, 4] rfl⟩
    · skip
      have c4 := Classical.not_not.mp (fun h9 => c4 (mb_0.mpr h9))
      refine lv_aload hx hb dX2_mend_47 (lv_at hl 2 rfl) ?_
      refine lv_iload hx hb dX2_mend_49 (lv_at hl 0 rfl) ?_
      refine lv_aload_n hx hb dX2_mend_51 rfl (lv_at hl 3 rfl) ?_
      refine va_getN (D := G) (ci := 0) (v := .ref (ad (200 + a))) (C := RX0) (T := TX0) (N := 3) (host := RX2) hx hb hts hiX0 hown hN.1 (mE_P1 hE (S_ce hn h_a rfl)) 0 rfl rfl 0 (by decide) (va_Nw.use rfl (hN.2.1 (.fieldLinkNest RX2 48 RX0 "things" "[I" RX2) (by decide +kernel))) (fun _ h9 => h9) rfl dX2_mend_52 ?_
      refine lv_iload hx hb dX2_mend_55 (lv_at hl 0 rfl) ?_
      refine mx_iald hx hb hN hE (S_te hn h_a rfl) (j := d) rfl (by omega) (by decide) dX2_mend_57 ?_
      refine va_callv (va_runVN (As := [.int (nI d), .int ((mMend v a b (mDr (mLook (v (300 + a)) (v (300 + b)) 15) (v (300 + a)) (v (300 + b)) 16) d) (200 + a) d)]) (rest := []) ⟨hx, hb, hml, hown, hts⟩ (c_X0_lay l G cy ad n k (mMend v a b (mDr (mLook (v (300 + a)) (v (300 + b)) 15) (v (300 + a)) (v (300 + b)) 16) d) o hn hk _ b d ((mMend v a b (mDr (mLook (v (300 + a)) (v (300 + b)) 15) (v (300 + a)) (v (300 + b)) 16) d) (200 + a) d) h_b (by omega)) ⟨va_cnB 2 hts gX2_mend_X0_lay_n51 rfl rfl rfl (hN.2.1 (.methodLinkNest RX2 51 yX0_lay RX2) (by decide +kernel)) (hts (.initialized RX0) (by decide +kernel)) (by decide +kernel) ⟨Nat.le_of_ble_eq_true rfl, Nat.le_of_ble_eq_true rfl⟩, (hts (.instanceMethod yX0_lay) (by decide +kernel)), (hts (.selects RX0 yX0_lay yX0_lay) (by decide +kernel))⟩ (mP_V (r := (RX0, TX0, 3)) hN hE (S_ce hn h_b rfl) rfl) rfl rfl hl.1 rfl (lv_room (Nat.le_of_ble_eq_true rfl)) dX2_mend_58 ⟨Nat.le_of_ble_eq_true rfl, Nat.le_of_ble_eq_true rfl⟩) hE.2.2.2 (fun q _ h => mE_A hE q h) (mE_A hE) (fun uq tq H locs ht hvm hw hB hz1 hk1 hS => ?_)
      subst hw
      have hE : mE G (mA ad (Sy cy ad n k v o) s.heap.size) s.heap ad (Sy cy ad n k (mLay (mMend v a b (mDr (mLook (v (300 + a)) (v (300 + b)) 15) (v (300 + a)) (v (300 + b)) 16) d) b d ((mMend v a b (mDr (mLook (v (300 + a)) (v (300 + b)) 15) (v (300 + a)) (v (300 + b)) 16) d) (200 + a) d)) o) H locs := mE_call hE hB ht hS
      have e9 : (mLay (mMend v a b (mDr (mLook (v (300 + a)) (v (300 + b)) 15) (v (300 + a)) (v (300 + b)) 16) d) b d ((mMend v a b (mDr (mLook (v (300 + a)) (v (300 + b)) 15) (v (300 + a)) (v (300 + b)) 16) d) (200 + a) d)) = mMend v a b (mDr (mLook (v (300 + a)) (v (300 + b)) 15) (v (300 + a)) (v (300 + b)) 16) (d + 1) := by simp only [mMend]; rw [if_pos c4]
      rw [e9] at hE
      refine lv_iinc (v := nI (d + 1)) (lv' := [(6, .int (nI (d + 1))), (5, .int (nI (mDr (mLook (v (300 + a)) (v (300 + b)) 15) (v (300 + a)) (v (300 + b)) 16))), (4, .ref (ad (100 + b))), (3, .ref (ad (100 + a))), (0, .ref (ad 0))]) hx hb dX2_mend_61 hl (k := 0) rfl (nI_add _ _) (by decide) rfl (fun ls hl => ?_)
      refine lv_goto (tgt := 30) hx hb dX2_mend_64 (by decide) ?_
      exact ih1 (16 - (d + 1)) (d + 1) _ _ _ (by rw [hn2]; omega) ⟨rfl, (by omega), hE, lv_sub hl [0, 1, 2, 3, 4] rfl⟩

set_option maxHeartbeats 4000000 in
set_option maxRecDepth 100000 in
/-- mean -/
theorem c_X2_mean (l : Launch) (G : va_G) (cy : Nat → ClassId) (ad : Nat → Nat) (n k : Nat) (v : Nat → Nat → Int32) (o : mC) (hn : n ≤ 6) (hk : k ≤ 20) (sz : Nat) : mMd l yX2_mean wsX2_mean ({ frames := 7, cells := 0, slots := 0, locals := 100 }) G cy ad (Sy cy ad n k v o) sz [.ref (ad 0)] 0 0 (fun (r : UInt64) u => r = (if n = 0 then FP.dconst0 else FP.ddiv (FP.i2d (mTot (fun i => v (300 + i)) n)) (FP.i2d (nI (31 * n)))) ∧ u = (ad, Sy cy ad n k v o)) := by
  refine Met.ofW (cc := cX2_mean) (maxL := 4) (ret := (some .double)) (by decide) rfl ?_
  intro p e s m args below meth c s₁ B hml hv
  obtain ⟨rfl, hv⟩ := hv
  have hsz := hv.1
  subst hsz
  have hN := hv.2.2
  have hE := mP_E hv
  have hx := B.exec
  have hb := B.bytes
  have hr := B.returns
  have hts := atoms_spec (ws := wsX2_mean) B.pre
  have hown : s.vm.findClass RX2 = some m.cls := findClass_of_methodNamed B.named
  have hlocks := B.notSynchronized
  have hiX2 : ∀ w ∈ wsX20, w ∈ wsX2_mean := by decide +kernel
  have hiX0 : ∀ w ∈ wsX00, w ∈ wsX2_mean := by decide +kernel
  have hl := lv_entry ([.ref (ad 0)]) (n := 4) (Nat.le_of_ble_eq_true rfl)
  rw [lg_entry_eq]
  generalize (lg_sl ([.ref (ad 0)]) ++ List.replicate (4 - (lg_sl ([.ref (ad 0)])).length) Slot.unset).toArray = ls at hl ⊢
  have hl : lv_has ls 4 [(0, .ref (ad 0))] := hl
  refine lv_aload_n hx hb dX2_mean_0 rfl (lv_at hl 0 rfl) ?_
  refine va_get (D := G) (ci := 2) (v := .int (nI n)) (C := RX2) (T := TX2) (N := 5) hx hb hts hiX2 hown hN.1 (mE_P1 hE S_0) 0 rfl rfl 3 (by decide) (hts (.fieldLink RX2 25 "SealedCupboards" "cupboardCount" "I") (by decide +kernel)) (fun _ h9 => h9) rfl dX2_mean_1 ?_
  refine lv_if_ne (tgt := 9) hx hb dX2_mean_4 (by decide) (fun c1 => ?_) (fun c1 => ?_)
  · skip
    have c1 : ¬ n = 0 := fun h9 => c1 ((mz_eq (by omega)).mpr h9)
    refine lv_iconst (v := nI 0) hx hb dX2_mean_9 (by decide) ?_
    refine lv_istore_n (lv' := [(1, .int (nI 0)), (0, .ref (ad 0))]) hx hb dX2_mean_10 rfl hl (by decide) rfl (fun ls hl => ?_)
    refine lv_iconst (v := nI 0) hx hb dX2_mean_11 (by decide) ?_
    refine lv_istore_n (lv' := [(2, .int (nI 0)), (1, .int (nI 0)), (0, .ref (ad 0))]) hx hb dX2_mean_12 rfl hl (by decide) rfl (fun ls hl => ?_)
    refine mx_loop (β := Nat) (fun n9 (i : Nat) H locs ls => n9 = n - i ∧ (i ≤ n) ∧ mE G (mA ad (Sy cy ad n k v o) s.heap.size) s.heap ad (Sy cy ad n k v o) H locs ∧ lv_has ls 4 [(2, .int (nI i)), (1, .int (mTot (fun i => v (300 + i)) i)), (0, .ref (ad 0))]) ?_ (n - 0) (0) _ _ _ ⟨rfl, (by omega), hE, lv_sub hl [0, 1, 2] rfl⟩
    intro n9 i H locs ls hI ih2
    obtain ⟨hn3, hle, hE, hl⟩ := hI
    have hE : mE G (mA ad (Sy cy ad n k v o) s.heap.size) s.heap ad (Sy cy ad n k v o) H locs := hE
    have hl : lv_has ls 4 [(2, .int (nI i)), (1, .int (mTot (fun i => v (300 + i)) i)), (0, .ref (ad 0))] := hl
    refine lv_iload_n hx hb dX2_mean_13 rfl (lv_at hl 0 rfl) ?_
    refine lv_aload_n hx hb dX2_mean_14 rfl (lv_at hl 2 rfl) ?_
    refine va_get (D := G) (ci := 2) (v := .int (nI n)) (C := RX2) (T := TX2) (N := 5) hx hb hts hiX2 hown hN.1 (mE_P1 hE S_0) 0 rfl rfl 3 (by decide) (hts (.fieldLink RX2 25 "SealedCupboards" "cupboardCount" "I") (by decide +kernel)) (fun _ h9 => h9) rfl dX2_mean_15 ?_
    refine mv_ge (tgt := 55) hx hb (by omega) (by omega) dX2_mean_18 (by decide) (fun c4 => ?_) (fun c4 => ?_)
    · skip
      refine lv_iload_n hx hb dX2_mean_55 rfl (lv_at hl 1 rfl) ?_
      refine lv_i2d hx hb dX2_mean_56 ?_
      refine lv_bipush (v := nI 31) hx hb dX2_mean_57 (by decide) ?_
      refine lv_aload_n hx hb dX2_mean_59 rfl (lv_at hl 2 rfl) ?_
      refine va_get (D := G) (ci := 2) (v := .int (nI n)) (C := RX2) (T := TX2) (N := 5) hx hb hts hiX2 hown hN.1 (mE_P1 hE S_0) 0 rfl rfl 3 (by decide) (hts (.fieldLink RX2 25 "SealedCupboards" "cupboardCount" "I") (by decide +kernel)) (fun _ h9 => h9) rfl dX2_mean_60 ?_
      refine mv_imul (z := nI (31 * n)) hx hb (pk_mul _ _) dX2_mean_63 ?_
      refine lv_i2d hx hb dX2_mean_64 ?_
      refine lv_ddiv hx hb dX2_mean_65 (mv_div _ _ (fun h9 => absurd ((mz_eq (by omega)).mp h9) (by omega))) ?_
      exact mx_dret hx hb hr hE hlocks ⟨by rw [if_neg c1, show i = n by omega], rfl⟩ dX2_mean_66
    · skip
      have h_i : i < n := c4
      refine lv_iconst (v := nI 1) hx hb dX2_mean_21 (by decide) ?_
      refine lv_istore_n (lv' := [(3, .int (nI 1)), (2, .int (nI i)), (1, .int (mTot (fun i => v (300 + i)) i)), (0, .ref (ad 0))]) hx hb dX2_mean_22 rfl hl (by decide) rfl (fun ls hl => ?_)
      refine mx_loop (β := Nat) (fun n9 (q : Nat) H locs ls => n9 = 31 - q ∧ (q ≤ 31) ∧ mE G (mA ad (Sy cy ad n k v o) s.heap.size) s.heap ad (Sy cy ad n k v o) H locs ∧ lv_has ls 4 [(3, .int (nI (q + 1))), (1, .int (mTo1 (v (300 + i)) (mTot (fun i => v (300 + i)) i) q)), (2, .int (nI i)), (0, .ref (ad 0))]) ?_ (31 - 0) (0) _ _ _ ⟨rfl, (by omega), hE, lv_sub hl [0, 2, 1, 3] rfl⟩
      intro n9 q H locs ls hI ih5
      obtain ⟨hn6, hle, hE, hl⟩ := hI
      have hE : mE G (mA ad (Sy cy ad n k v o) s.heap.size) s.heap ad (Sy cy ad n k v o) H locs := hE
      have hl : lv_has ls 4 [(3, .int (nI (q + 1))), (1, .int (mTo1 (v (300 + i)) (mTot (fun i => v (300 + i)) i) q)), (2, .int (nI i)), (0, .ref (ad 0))] := hl
      refine lv_iload_n hx hb dX2_mean_23 rfl (lv_at hl 0 rfl) ?_
      refine lv_bipush (v := nI 31) hx hb dX2_mean_24 (by decide) ?_
      refine mv_gt (tgt := 49) hx hb (by omega) (by omega) dX2_mean_26 (by decide) (fun c7 => ?_) (fun c7 => ?_)
      · skip
        have e9 : q = 31 := by omega
        subst e9
        have hl : lv_has ls 4 [(3, .int (nI (31 + 1))), (1, .int (mTot (fun i => v (300 + i)) (i + 1))), (2, .int (nI i)), (0, .ref (ad 0))] := hl
        refine lv_iinc (v := nI (i + 1)) (lv' := [(2, .int (nI (i + 1))), (3, .int (nI (31 + 1))), (1, .int (mTot (fun i => v (300 + i)) (i + 1))), (0, .ref (ad 0))]) hx hb dX2_mean_49 hl (k := 2) rfl (nI_add _ _) (by decide) rfl (fun ls hl => ?_)
        refine lv_goto (tgt := 13) hx hb dX2_mean_52 (by decide) ?_
        exact ih2 (n - (i + 1)) (i + 1) _ _ _ (by rw [hn3]; omega) ⟨rfl, (by omega), hE, lv_sub hl [0, 2, 3] rfl⟩
      · skip
        skip
        refine lv_iload_n hx hb dX2_mean_29 rfl (lv_at hl 1 rfl) ?_
        refine lv_aload_n hx hb dX2_mean_30 rfl (lv_at hl 3 rfl) ?_
        refine va_get (D := G) (ci := 2) (v := .ref (ad 1)) (C := RX2) (T := TX2) (N := 5) hx hb hts hiX2 hown hN.1 (mE_P1 hE S_0) 0 rfl rfl 0 (by decide) (hts (.fieldLink RX2 11 "SealedCupboards" "cupboards" "[LSealedCupboards$Cupboard;") (by decide +kernel)) (fun _ h9 => h9) rfl dX2_mean_31 ?_
        refine lv_iload_n hx hb dX2_mean_34 rfl (lv_at hl 2 rfl) ?_
        refine mx_aald (t := 1) hx hb hN hE S_1 rfl (j := i) rfl (by omega) (by decide) (S_1at h_i) dX2_mean_35 ?_
        refine va_getN (D := G) (ci := 0) (v := .ref (ad (300 + i))) (C := RX0) (T := TX0) (N := 3) (host := RX2) hx hb hts hiX0 hown hN.1 (mE_P1 hE (S_ce hn h_i rfl)) 0 rfl rfl 1 (by decide) (va_Nw.use rfl (hN.2.1 (.fieldLinkNest RX2 55 RX0 "sums" "[I" RX2) (by decide +kernel))) (fun _ h9 => h9) rfl dX2_mean_36 ?_
        refine lv_iload_n hx hb dX2_mean_39 rfl (lv_at hl 0 rfl) ?_
        refine mx_iald hx hb hN hE (S_se hn h_i rfl) (j := q + 1) rfl (by omega) (by decide) dX2_mean_40 ?_
        refine mv_iadd (z := (mTo1 (v (300 + i)) (mTot (fun i => v (300 + i)) i) q) + (v (300 + i) (q + 1))) hx hb rfl dX2_mean_41 ?_
        refine lv_istore_n (lv' := [(1, .int ((mTo1 (v (300 + i)) (mTot (fun i => v (300 + i)) i) q) + (v (300 + i) (q + 1)))), (3, .int (nI (q + 1))), (2, .int (nI i)), (0, .ref (ad 0))]) hx hb dX2_mean_42 rfl hl (by decide) rfl (fun ls hl => ?_)
        have hl : lv_has ls 4 [(1, .int (mTo1 (v (300 + i)) (mTot (fun i => v (300 + i)) i) (q + 1))), (3, .int (nI (q + 1))), (2, .int (nI i)), (0, .ref (ad 0))] := hl
        refine lv_iinc (v := nI ((q + 1) + 1)) (lv' := [(3, .int (nI ((q + 1) + 1))), (1, .int (mTo1 (v (300 + i)) (mTot (fun i => v (300 + i)) i) (q + 1))), (2, .int (nI i)), (0, .ref (ad 0))]) hx hb dX2_mean_43 hl (k := 1) rfl (nI_add _ _) (by decide) rfl (fun ls hl => ?_)
        refine lv_goto (tgt := 23) hx hb dX2_mean_46 (by decide) ?_
        exact ih5 (31 - (q + 1)) (q + 1) _ _ _ (by rw [hn6]; omega) ⟨rfl, (by omega), hE, lv_sub hl [0, 1, 2, 3] rfl⟩
  · skip
    have c1 := (mz_eq (by omega)).mp c1
    refine lv_dconst0 hx hb dX2_mean_7 ?_
    exact mx_dret hx hb hr hE hlocks ⟨(if_pos c1).symm, rfl⟩ dX2_mean_8
