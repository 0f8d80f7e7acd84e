set_option maxHeartbeats 4000000 in
set_option maxRecDepth 100000 in
/-- mean -/
theorem c_X3_mean (l : Launch) (G : va_G) (cy : Nat → ClassId) (ad : Nat → Nat) (cn ck n k : Nat) (v : Nat → Nat → Int32) (o : Nat → Int64) (hn : n ≤ 6) (hk : k ≤ 20) (sz : Nat) (hm1 : v 4 1 = nI n) (hm2 : v 4 2 = nI k) {f5 : Nat → Int32} (h5 : v 5 = f5) : mMd l yX3_mean wsX3_mean ({ frames := 9, cells := 0, slots := 0, locals := 180 }) G cy ad (Sy cy ad cn ck v o) sz [.ref (ad 4)] 0 0 (fun (r : UInt64) u => r = (if n = 0 then FP.dconst0 else FP.ddiv (FP.i2d (mTot (fun i => mS (fun d => f5 (16 * i + d))) n)) (FP.i2d (nI (31 * n)))) ∧ ∃ v' : Nat → Nat → Int32, u = (ad, Sy cy ad cn ck v' o) ∧ mQT v v' (nI 0)) := by
  refine Met.ofW (cc := cX3_mean) (maxL := 4) (ret := (some .double)) (by decide) rfl ?_
  intro p e s m args below meth c s₁ B hml hv
  obtain ⟨rfl, hv⟩ := hv
  have hsz := hv.1
  subst hsz
  have hN := hv.2.2
  have hE := mP_E hv
  have hx := B.exec
  have hb := B.bytes
  have hr := B.returns
  have hts := atoms_spec (ws := wsX3_mean) B.pre
  have hown : s.vm.findClass RX3 = some m.cls := findClass_of_methodNamed B.named
  have hlocks := B.notSynchronized
  have hiX3 : ∀ w ∈ wsX30, w ∈ wsX3_mean := by decide +kernel
  have hl := lv_entry ([.ref (ad 4)]) (n := 4) (Nat.le_of_ble_eq_true rfl)
  rw [lg_entry_eq]
  generalize (lg_sl ([.ref (ad 4)]) ++ List.replicate (4 - (lg_sl ([.ref (ad 4)])).length) Slot.unset).toArray = ls at hl ⊢
  have hl : lv_has ls 4 [(0, .ref (ad 4))] := hl
  refine lv_aload_n hx hb dX3_mean_0 rfl (lv_at hl 0 rfl) ?_
  refine lv_iconst (v := nI 0) hx hb dX3_mean_1 (by decide) ?_
  refine mx_put (ci := 3) (v := .int (nI 0)) (ty := .int) (C := RX3) (T := TX3) (N := 11) hx hb hts hiX3 tyX3 tyX3_ok nmX3 hown hN hE (S_4f rfl hm1 hm2 rfl) rfl 0 (by decide) (hts (.fieldLink RX3 31 "SealedCupboardsModel" "thrown" "I") (by decide +kernel)) (fun _ h9 => h9) rfl (by decide +kernel) rfl rfl (Nat.le_of_ble_eq_true rfl) dX3_mean_2 (fun H locs hE => ?_)
  obtain ⟨kv1, hkv1⟩ : ∃ y99, y99 = va_up v 4 (upd (v 4) 0 (nI 0)) := ⟨_, rfl⟩
  have hE : mE G (mA ad (Sy cy ad cn ck v o) s.heap.size) s.heap ad (Sy cy ad cn ck kv1 o) H locs := by rw [hkv1]; exact (S_4u (upd_s _ _ _) ((upd_n _ _ (by decide)).trans hm1) ((upd_n _ _ (by decide)).trans hm2) ((upd_n _ _ (by decide)).trans rfl)) ▸ hE
  have kf2 : kv1 4 0 = nI 0 := by rw [hkv1, va_up_s, upd_s]
  have kf3 : kv1 4 1 = nI n := by rw [hkv1, va_up_s, upd_n _ _ (by decide)]; exact hm1
  have kf4 : kv1 4 2 = nI k := by rw [hkv1, va_up_s, upd_n _ _ (by decide)]; exact hm2
  have kf5 : kv1 4 10 = v 4 10 := by rw [hkv1, va_up_s, upd_n _ _ (by decide)]
  have ke6 : kv1 5 = f5 := by rw [hkv1, va_up_n _ _ (by omega)]; exact h5
  have ke7 : kv1 10 = v 10 := by rw [hkv1, va_up_n _ _ (by omega)]
  refine lv_iconst (v := nI 0) hx hb dX3_mean_5 (by decide) ?_
  refine lv_istore_n (lv' := [(1, .int (nI 0)), (0, .ref (ad 4))]) hx hb dX3_mean_6 rfl hl (by decide) rfl (fun ls hl => ?_)
  refine lv_iconst (v := nI 0) hx hb dX3_mean_7 (by decide) ?_
  refine lv_istore_n (lv' := [(2, .int (nI 0)), (1, .int (nI 0)), (0, .ref (ad 4))]) hx hb dX3_mean_8 rfl hl (by decide) rfl (fun ls hl => ?_)
  refine mx_loop (β := Nat × (Nat → Nat → Int32)) (fun n9 (bb9 : Nat × (Nat → Nat → Int32)) H locs ls => (fun (i : Nat) (v9 : Nat → Nat → Int32) => n9 = n - i ∧ (i ≤ n ∧ mQT v v9 (nI 0)) ∧ mE G (mA ad (Sy cy ad cn ck v o) s.heap.size) s.heap ad (Sy cy ad cn ck v9 o) H locs ∧ lv_has ls 4 [(2, .int (nI i)), (1, .int (mTot (fun i => mS (fun d => f5 (16 * i + d))) i)), (0, .ref (ad 4))]) (bb9.1) (bb9.2)) ?_ (n - 0) (0, kv1) _ _ _ ⟨rfl, ⟨by omega, ⟨fun w h4 h10 h11 => (show kv1 w = v w by rw [hkv1, va_up_n _ _ h4]), kf2, (kf3.trans hm1.symm), (kf4.trans hm2.symm)⟩⟩, hE, lv_sub hl [0, 1, 2] rfl⟩
  intro n9 bb9 H locs ls hI ih8
  obtain ⟨i, v9⟩ := bb9
  obtain ⟨hn9, ⟨hle, hq9⟩, hE, hl⟩ := hI
  have hE : mE G (mA ad (Sy cy ad cn ck v o) s.heap.size) s.heap ad (Sy cy ad cn ck v9 o) H locs := hE
  have hl : lv_has ls 4 [(2, .int (nI i)), (1, .int (mTot (fun i => mS (fun d => f5 (16 * i + d))) i)), (0, .ref (ad 4))] := hl
  refine lv_iload_n hx hb dX3_mean_9 rfl (lv_at hl 0 rfl) ?_
  refine lv_aload_n hx hb dX3_mean_10 rfl (lv_at hl 2 rfl) ?_
  refine va_get (D := G) (ci := 3) (v := .int (nI n)) (C := RX3) (T := TX3) (N := 11) hx hb hts hiX3 hown hN.1 (mE_P1 hE (S_4f hq9.2.1 (hq9.2.2.1.trans hm1) (hq9.2.2.2.trans hm2) rfl)) 0 rfl rfl 1 (by decide) (hts (.fieldLink RX3 35 "SealedCupboardsModel" "cupboards" "I") (by decide +kernel)) (fun _ h9 => h9) rfl dX3_mean_11 ?_
  refine mv_ge (tgt := 55) hx hb (by omega) (by omega) dX3_mean_14 (by decide) (fun c10 => ?_) (fun c10 => ?_)
  · skip
    refine lv_aload_n hx hb dX3_mean_55 rfl (lv_at hl 2 rfl) ?_
    refine va_get (D := G) (ci := 3) (v := .int (nI n)) (C := RX3) (T := TX3) (N := 11) hx hb hts hiX3 hown hN.1 (mE_P1 hE (S_4f hq9.2.1 (hq9.2.2.1.trans hm1) (hq9.2.2.2.trans hm2) rfl)) 0 rfl rfl 1 (by decide) (hts (.fieldLink RX3 35 "SealedCupboardsModel" "cupboards" "I") (by decide +kernel)) (fun _ h9 => h9) rfl dX3_mean_56 ?_
    refine lv_if_ne (tgt := 66) hx hb dX3_mean_59 (by decide) (fun c11 => ?_) (fun c11 => ?_)
    · skip
      have c11 : ¬ n = 0 := fun h9 => c11 ((mz_eq (by omega)).mpr h9)
      refine lv_iload_n hx hb dX3_mean_66 rfl (lv_at hl 1 rfl) ?_
      refine lv_i2d hx hb dX3_mean_67 ?_
      refine lv_bipush (v := nI 31) hx hb dX3_mean_68 (by decide) ?_
      refine lv_aload_n hx hb dX3_mean_70 rfl (lv_at hl 2 rfl) ?_
      refine va_get (D := G) (ci := 3) (v := .int (nI n)) (C := RX3) (T := TX3) (N := 11) hx hb hts hiX3 hown hN.1 (mE_P1 hE (S_4f hq9.2.1 (hq9.2.2.1.trans hm1) (hq9.2.2.2.trans hm2) rfl)) 0 rfl rfl 1 (by decide) (hts (.fieldLink RX3 35 "SealedCupboardsModel" "cupboards" "I") (by decide +kernel)) (fun _ h9 => h9) rfl dX3_mean_71 ?_
      refine mv_imul (z := nI (31 * n)) hx hb (pk_mul _ _) dX3_mean_74 ?_
      refine lv_i2d hx hb dX3_mean_75 ?_
      refine lv_ddiv hx hb dX3_mean_76 (mv_div _ _ (fun h9 => absurd ((mz_eq (by omega)).mp h9) (by omega))) ?_
      exact mx_dret hx hb hr hE hlocks ⟨by rw [if_neg c11, show i = n by omega], ⟨v9, rfl, fun w h4 h10 h11 => (hq9.1 w h4 h10 h11), hq9.2.1, ((hq9.2.2.1.trans hm1).trans hm1.symm), ((hq9.2.2.2.trans hm2).trans hm2.symm)⟩⟩ dX3_mean_77
    · skip
      have c11 := (mz_eq (by omega)).mp c11
      refine lv_dconst0 hx hb dX3_mean_62 ?_
      refine lv_goto (tgt := 77) hx hb dX3_mean_63 (by decide) ?_
      exact mx_dret hx hb hr hE hlocks ⟨(if_pos c11).symm, ⟨v9, rfl, fun w h4 h10 h11 => (hq9.1 w h4 h10 h11), hq9.2.1, ((hq9.2.2.1.trans hm1).trans hm1.symm), ((hq9.2.2.2.trans hm2).trans hm2.symm)⟩⟩ dX3_mean_77
  · skip
    have h_i : i < n := c10
    refine lv_aload_n hx hb dX3_mean_17 rfl (lv_at hl 2 rfl) ?_
    refine lv_iload_n hx hb dX3_mean_18 rfl (lv_at hl 0 rfl) ?_
    refine lv_aload_n hx hb dX3_mean_19 rfl (lv_at hl 2 rfl) ?_
    refine va_get (D := G) (ci := 3) (v := .ref (ad 10)) (C := RX3) (T := TX3) (N := 11) hx hb hts hiX3 hown hN.1 (mE_P1 hE (S_4f hq9.2.1 (hq9.2.2.1.trans hm1) (hq9.2.2.2.trans hm2) rfl)) 0 rfl rfl 8 (by decide) (hts (.fieldLink RX3 25 "SealedCupboardsModel" "sums" "[I") (by decide +kernel)) (fun _ h9 => h9) rfl dX3_mean_20 ?_
    refine va_callv (va_runV (As := [.int (nI i), .ref (ad 10)]) (rest := []) ⟨hx, hb, hml, hown, hts⟩ (c_X3_reckon l G cy ad cn ck n k v9 o hn hk _ (hq9.2.2.1.trans hm1) (hq9.2.2.2.trans hm2) i 10 h_i (fun g => sy_10) (by decide) (by decide) ((hq9.1 5 (by decide) (by decide) (by decide)).trans h5)) (cwV 2 hts gX3_mean_X3_reckon rfl rfl rfl (by decide +kernel) ⟨Nat.le_of_ble_eq_true rfl, Nat.le_of_ble_eq_true rfl⟩) (mP_V (r := (RX3, TX3, 11)) hN hE (S_4f hq9.2.1 (hq9.2.2.1.trans hm1) (hq9.2.2.2.trans hm2) rfl) rfl) rfl rfl hl.1 rfl (lv_room (Nat.le_of_ble_eq_true rfl)) dX3_mean_23 ⟨Nat.le_of_ble_eq_true rfl, Nat.le_of_ble_eq_true rfl⟩) hE.2.2.2 (fun q _ h => mE_A hE q h) (mE_A hE) (fun uq tq H locs ht hvm hw hB hz1 hk1 hS => ?_)
    obtain ⟨kg12, rfl, kq13⟩ := hw
    have hE : mE G (mA ad (Sy cy ad cn ck v o) s.heap.size) s.heap ad (Sy cy ad cn ck (va_up v9 10 kg12) o) H locs := mE_call hE hB ht hS
    obtain ⟨kv14, hkv14⟩ : ∃ y99, y99 = va_up v9 10 kg12 := ⟨_, rfl⟩
    have hE : mE G (mA ad (Sy cy ad cn ck v o) s.heap.size) s.heap ad (Sy cy ad cn ck kv14 o) H locs := by rw [hkv14]; exact hE
    have ke15 : kv14 5 = f5 := by rw [hkv14, va_up_n _ _ (by omega)]; exact ((hq9.1 5 (by decide) (by decide) (by decide)).trans h5)
    have ke16 : kv14 10 = kg12 := by rw [hkv14, va_up_s]
    have kf17 : kv14 4 0 = nI 0 := by rw [hkv14, va_up_n _ _ (by omega)]; exact hq9.2.1
    have kf18 : kv14 4 1 = nI n := by rw [hkv14, va_up_n _ _ (by omega)]; exact (hq9.2.2.1.trans hm1)
    have kf19 : kv14 4 2 = nI k := by rw [hkv14, va_up_n _ _ (by omega)]; exact (hq9.2.2.2.trans hm2)
    have kf20 : kv14 4 10 = v9 4 10 := by rw [hkv14, va_up_n _ _ (by omega)]
    refine lv_iconst (v := nI 1) hx hb dX3_mean_26 (by decide) ?_
    refine lv_istore_n (lv' := [(3, .int (nI 1)), (2, .int (nI i)), (1, .int (mTot (fun i => mS (fun d => f5 (16 * i + d))) i)), (0, .ref (ad 4))]) hx hb dX3_mean_27 rfl hl (by decide) rfl (fun ls hl => ?_)
    refine mx_loop (β := Nat) (fun n9 (q : Nat) H locs ls => n9 = 31 - q ∧ (q ≤ 31) ∧ mE G (mA ad (Sy cy ad cn ck v o) s.heap.size) s.heap ad (Sy cy ad cn ck kv14 o) H locs ∧ lv_has ls 4 [(3, .int (nI (q + 1))), (1, .int (mTo1 kg12 (mTot (fun i => mS (fun d => f5 (16 * i + d))) i) q)), (2, .int (nI i)), (0, .ref (ad 4))]) ?_ (31 - 0) (0) _ _ _ ⟨rfl, (by omega), hE, lv_sub hl [0, 2, 1, 3] rfl⟩
    intro n9 q H locs ls hI ih21
    obtain ⟨hn22, hle2, hE, hl⟩ := hI
    have hE : mE G (mA ad (Sy cy ad cn ck v o) s.heap.size) s.heap ad (Sy cy ad cn ck kv14 o) H locs := hE
    have hl : lv_has ls 4 [(3, .int (nI (q + 1))), (1, .int (mTo1 kg12 (mTot (fun i => mS (fun d => f5 (16 * i + d))) i) q)), (2, .int (nI i)), (0, .ref (ad 4))] := hl
    refine lv_iload_n hx hb dX3_mean_28 rfl (lv_at hl 0 rfl) ?_
    refine lv_bipush (v := nI 32) hx hb dX3_mean_29 (by decide) ?_
    refine mv_ge (tgt := 49) hx hb (by omega) (by omega) dX3_mean_31 (by decide) (fun c23 => ?_) (fun c23 => ?_)
    · skip
      have e9 : mTo1 kg12 (mTot (fun i => mS (fun d => f5 (16 * i + d))) i) q = mTot (fun i => mS (fun d => f5 (16 * i + d))) (i + 1) := by rw [show q = 31 by omega]; exact mTo1_eq (mCon_S kq13) _ 31 (by decide)
      rw [e9] at hl
      refine lv_iinc (v := nI (i + 1)) (lv' := [(2, .int (nI (i + 1))), (3, .int (nI (q + 1))), (1, .int (mTot (fun i => mS (fun d => f5 (16 * i + d))) (i + 1))), (0, .ref (ad 4))]) hx hb dX3_mean_49 hl (k := 2) rfl (nI_add _ _) (by decide) rfl (fun ls hl => ?_)
      refine lv_goto (tgt := 9) hx hb dX3_mean_52 (by decide) ?_
      exact ih8 (n - (i + 1)) (i + 1, kv14) _ _ _ (by rw [hn9]; omega) ⟨rfl, ⟨by omega, ⟨fun w h4 h10 h11 => ((show kv14 w = v9 w by rw [hkv14, va_up_n _ _ h10]).trans (hq9.1 w h4 h10 h11)), kf17, (kf18.trans hm1.symm), (kf19.trans hm2.symm)⟩⟩, hE, lv_sub hl [0, 2, 3] rfl⟩
    · skip
      refine lv_iload_n hx hb dX3_mean_34 rfl (lv_at hl 1 rfl) ?_
      refine lv_aload_n hx hb dX3_mean_35 rfl (lv_at hl 3 rfl) ?_
      refine va_get (D := G) (ci := 3) (v := .ref (ad 10)) (C := RX3) (T := TX3) (N := 11) hx hb hts hiX3 hown hN.1 (mE_P1 hE (S_4f kf17 kf18 kf19 kf20)) 0 rfl rfl 8 (by decide) (hts (.fieldLink RX3 25 "SealedCupboardsModel" "sums" "[I") (by decide +kernel)) (fun _ h9 => h9) rfl dX3_mean_36 ?_
      refine lv_iload_n hx hb dX3_mean_39 rfl (lv_at hl 0 rfl) ?_
      refine mx_iald hx hb hN hE (S_10e ke16) (j := q + 1) rfl (by omega) (by decide) dX3_mean_40 ?_
      refine mv_iadd (z := (mTo1 kg12 (mTot (fun i => mS (fun d => f5 (16 * i + d))) i) q) + (kg12 (q + 1))) hx hb rfl dX3_mean_41 ?_
      refine lv_istore_n (lv' := [(1, .int ((mTo1 kg12 (mTot (fun i => mS (fun d => f5 (16 * i + d))) i) q) + (kg12 (q + 1)))), (3, .int (nI (q + 1))), (2, .int (nI i)), (0, .ref (ad 4))]) hx hb dX3_mean_42 rfl hl (by decide) rfl (fun ls hl => ?_)
      have hl : lv_has ls 4 [(1, .int (mTo1 kg12 (mTot (fun i => mS (fun d => f5 (16 * i + d))) i) (q + 1))), (3, .int (nI (q + 1))), (2, .int (nI i)), (0, .ref (ad 4))] := hl
      refine lv_iinc (v := nI ((q + 1) + 1)) (lv' := [(3, .int (nI ((q + 1) + 1))), (1, .int (mTo1 kg12 (mTot (fun i => mS (fun d => f5 (16 * i + d))) i) (q + 1))), (2, .int (nI i)), (0, .ref (ad 4))]) hx hb dX3_mean_43 hl (k := 1) rfl (nI_add _ _) (by decide) rfl (fun ls hl => ?_)
      refine lv_goto (tgt := 28) hx hb dX3_mean_46 (by decide) ?_
      exact ih21 (31 - (q + 1)) (q + 1) _ _ _ (by rw [hn22]; omega) ⟨rfl, (by omega), hE, lv_sub hl [0, 1, 2, 3] rfl⟩

set_option maxHeartbeats 4000000 in
set_option maxRecDepth 100000 in
/-- the checksum of the reference -/
theorem c_X3_digest (l : Launch) (G : va_G) (cy : Nat → ClassId) (ad : Nat → Nat) (cn ck n k : Nat) (v : Nat → Nat → Int32) (o : Nat → Int64) (hn : n ≤ 6) (hk : k ≤ 20) (sz : Nat) (hm1 : v 4 1 = nI n) (hm2 : v 4 2 = nI k) {b : Nat → Nat → Int32} (h5 : v 5 = b 5) (h6 : v 6 = b 6) (h7 : v 7 = b 7) (h8 : v 8 = b 8) (h9 : v 9 = b 9) (cs : Nat → Nat) (hcs : ∀ j, j < k → cs j < n ∧ b 7 j = nI (cs j)) : mMl l yX3_digest wsX3_digest ({ frames := 11, cells := 0, slots := 0, locals := 260 }) G cy ad (Sy cy ad cn ck v o) sz [.ref (ad 4)] 0 0 (fun (r : Int64) u => r = mDigest (mCount (mVw b) n k) (mTold (mVw b) k) (fun i => mVw b (200 + i)) (fun j => mAbout (mVw b) j (cs j)) n k ∧ ∃ v' : Nat → Nat → Int32, u = (ad, Sy cy ad cn ck v' o) ∧ mQT v v' (nI 0)) := by
  refine Met.ofW (cc := cX3_digest) (maxL := 5) (ret := (some .long)) (by decide) rfl ?_
  intro p e s m args below meth c s₁ B hml hv
  obtain ⟨rfl, hv⟩ := hv
  have hsz := hv.1
  subst hsz
  have hN := hv.2.2
  have hE := mP_E hv
  have hx := B.exec
  have hb := B.bytes
  have hr := B.returns
  have hts := atoms_spec (ws := wsX3_digest) B.pre
  have hown : s.vm.findClass RX3 = some m.cls := findClass_of_methodNamed B.named
  have hlocks := B.notSynchronized
  have hiX3 : ∀ w ∈ wsX30, w ∈ wsX3_digest := by decide +kernel
  have hl := lv_entry ([.ref (ad 4)]) (n := 5) (Nat.le_of_ble_eq_true rfl)
  rw [lg_entry_eq]
  generalize (lg_sl ([.ref (ad 4)]) ++ List.replicate (5 - (lg_sl ([.ref (ad 4)])).length) Slot.unset).toArray = ls at hl ⊢
  have hl : lv_has ls 5 [(0, .ref (ad 4))] := hl
  refine lv_aload_n hx hb dX3_digest_0 rfl (lv_at hl 0 rfl) ?_
  refine lv_iconst (v := nI 0) hx hb dX3_digest_1 (by decide) ?_
  refine mx_put (ci := 3) (v := .int (nI 0)) (ty := .int) (C := RX3) (T := TX3) (N := 11) hx hb hts hiX3 tyX3 tyX3_ok nmX3 hown hN hE (S_4f rfl hm1 hm2 rfl) rfl 0 (by decide) (hts (.fieldLink RX3 31 "SealedCupboardsModel" "thrown" "I") (by decide +kernel)) (fun _ h9 => h9) rfl (by decide +kernel) rfl rfl (Nat.le_of_ble_eq_true rfl) dX3_digest_2 (fun H locs hE => ?_)
  obtain ⟨kv1, hkv1⟩ : ∃ y99, y99 = va_up v 4 (upd (v 4) 0 (nI 0)) := ⟨_, rfl⟩
  have hE : mE G (mA ad (Sy cy ad cn ck v o) s.heap.size) s.heap ad (Sy cy ad cn ck kv1 o) H locs := by rw [hkv1]; exact (S_4u (upd_s _ _ _) ((upd_n _ _ (by decide)).trans hm1) ((upd_n _ _ (by decide)).trans hm2) ((upd_n _ _ (by decide)).trans rfl)) ▸ hE
  have kf2 : kv1 4 0 = nI 0 := by rw [hkv1, va_up_s, upd_s]
  have kf3 : kv1 4 1 = nI n := by rw [hkv1, va_up_s, upd_n _ _ (by decide)]; exact hm1
  have kf4 : kv1 4 2 = nI k := by rw [hkv1, va_up_s, upd_n _ _ (by decide)]; exact hm2
  have kf5 : kv1 4 10 = v 4 10 := by rw [hkv1, va_up_s, upd_n _ _ (by decide)]
  have ke6 : kv1 5 = b 5 := by rw [hkv1, va_up_n _ _ (by omega)]; exact h5
  have ke7 : kv1 6 = b 6 := by rw [hkv1, va_up_n _ _ (by omega)]; exact h6
  have ke8 : kv1 7 = b 7 := by rw [hkv1, va_up_n _ _ (by omega)]; exact h7
  have ke9 : kv1 8 = b 8 := by rw [hkv1, va_up_n _ _ (by omega)]; exact h8
  have ke10 : kv1 9 = b 9 := by rw [hkv1, va_up_n _ _ (by omega)]; exact h9
  refine lv_ldc2 (v := 1277) hx hb hown (hts (.constantLong RX3 112 1277) (by decide +kernel)) dX3_digest_5 ?_
  refine lv_lstore_n (lv' := [(1, .long (1277 : Int64)), (0, .ref (ad 4))]) hx hb dX3_digest_8 rfl hl (by decide) rfl (fun ls hl => ?_)
  refine lv_iconst (v := nI 0) hx hb dX3_digest_9 (by decide) ?_
  refine lv_istore_n (lv' := [(3, .int (nI 0)), (1, .long (1277 : Int64)), (0, .ref (ad 4))]) hx hb dX3_digest_10 rfl hl (by decide) rfl (fun ls hl => ?_)
  refine mx_loop (β := Nat × (Nat → Nat → Int32)) (fun n9 (bb9 : Nat × (Nat → Nat → Int32)) H locs ls => (fun (t9 : Nat) (va : Nat → Nat → Int32) => n9 = 4 - t9 ∧ (t9 ≤ 4 ∧ mQT v va (nI 0)) ∧ mE G (mA ad (Sy cy ad cn ck v o) s.heap.size) s.heap ad (Sy cy ad cn ck va o) H locs ∧ lv_has ls 5 [(3, .int (nI t9)), (1, .long (mDg (mCount (mVw b) n k) 1277 t9)), (0, .ref (ad 4))]) (bb9.1) (bb9.2)) ?_ (4 - 0) (0, kv1) _ _ _ ⟨rfl, ⟨by omega, ⟨fun w h4 h10 h11 => (show kv1 w = v w by rw [hkv1, va_up_n _ _ h4]), kf2, (kf3.trans hm1.symm), (kf4.trans hm2.symm)⟩⟩, hE, lv_sub hl [0, 1, 2] rfl⟩
  intro n9 bb9 H locs ls hI ih11
  obtain ⟨t9, va⟩ := bb9
  obtain ⟨hn12, ⟨hle_t9, hqa⟩, hE, hl⟩ := hI
  have hE : mE G (mA ad (Sy cy ad cn ck v o) s.heap.size) s.heap ad (Sy cy ad cn ck va o) H locs := hE
  have hl : lv_has ls 5 [(3, .int (nI t9)), (1, .long (mDg (mCount (mVw b) n k) 1277 t9)), (0, .ref (ad 4))] := hl
  refine lv_iload_n hx hb dX3_digest_11 rfl (lv_at hl 0 rfl) ?_
  refine lv_iconst (v := nI 4) hx hb dX3_digest_12 (by decide) ?_
  refine mv_ge (tgt := 35) hx hb (by omega) (by omega) dX3_digest_13 (by decide) (fun c13 => ?_) (fun c13 => ?_)
  · skip
    have e9 : t9 = 4 := by omega
    subst e9
    have hl : lv_has ls 5 [(3, .int (nI 4)), (1, .long (mDgc (mTold (mVw b) k) (fun i => mVw b (200 + i)) (mDg (mCount (mVw b) n k) 1277 4) 0)), (0, .ref (ad 4))] := hl
    refine lv_iconst (v := nI 0) hx hb dX3_digest_35 (by decide) ?_
    refine lv_istore_n (lv' := [(3, .int (nI 0)), (1, .long (mDgc (mTold (mVw b) k) (fun i => mVw b (200 + i)) (mDg (mCount (mVw b) n k) 1277 4) 0)), (0, .ref (ad 4))]) hx hb dX3_digest_36 rfl hl (by decide) rfl (fun ls hl => ?_)
    refine mx_loop (β := Nat × (Nat → Nat → Int32)) (fun n9 (bb9 : Nat × (Nat → Nat → Int32)) H locs ls => (fun (i : Nat) (vb : Nat → Nat → Int32) => n9 = n - i ∧ (i ≤ n ∧ mQT v vb (nI 0)) ∧ mE G (mA ad (Sy cy ad cn ck v o) s.heap.size) s.heap ad (Sy cy ad cn ck vb o) H locs ∧ lv_has ls 5 [(3, .int (nI i)), (1, .long (mDgc (mTold (mVw b) k) (fun i => mVw b (200 + i)) (mDg (mCount (mVw b) n k) 1277 4) i)), (0, .ref (ad 4))]) (bb9.1) (bb9.2)) ?_ (n - 0) (0, va) _ _ _ ⟨rfl, ⟨by omega, ⟨fun w h4 h10 h11 => (hqa.1 w h4 h10 h11), hqa.2.1, ((hqa.2.2.1.trans hm1).trans hm1.symm), ((hqa.2.2.2.trans hm2).trans hm2.symm)⟩⟩, hE, lv_sub hl [0, 1, 2] rfl⟩
    intro n9 bb9 H locs ls hI ih14
    obtain ⟨i, vb⟩ := bb9
    obtain ⟨hn15, ⟨hle_i, hqb⟩, hE, hl⟩ := hI
    have hE : mE G (mA ad (Sy cy ad cn ck v o) s.heap.size) s.heap ad (Sy cy ad cn ck vb o) H locs := hE
    have hl : lv_has ls 5 [(3, .int (nI i)), (1, .long (mDgc (mTold (mVw b) k) (fun i => mVw b (200 + i)) (mDg (mCount (mVw b) n k) 1277 4) i)), (0, .ref (ad 4))] := hl
    refine lv_iload_n hx hb dX3_digest_37 rfl (lv_at hl 0 rfl) ?_
    refine lv_aload_n hx hb dX3_digest_38 rfl (lv_at hl 2 rfl) ?_
    refine va_get (D := G) (ci := 3) (v := .int (nI n)) (C := RX3) (T := TX3) (N := 11) hx hb hts hiX3 hown hN.1 (mE_P1 hE (S_4f hqb.2.1 (hqb.2.2.1.trans hm1) (hqb.2.2.2.trans hm2) rfl)) 0 rfl rfl 1 (by decide) (hts (.fieldLink RX3 35 "SealedCupboardsModel" "cupboards" "I") (by decide +kernel)) (fun _ h9 => h9) rfl dX3_digest_39 ?_
    refine mv_ge (tgt := 113) hx hb (by omega) (by omega) dX3_digest_42 (by decide) (fun c16 => ?_) (fun c16 => ?_)
    · skip
      have e9 : n = i := by omega
      subst e9
      have hl : lv_has ls 5 [(3, .int (nI n)), (1, .long (mDgs (fun j => mAbout (mVw b) j (cs j)) (mDgc (mTold (mVw b) k) (fun i => mVw b (200 + i)) (mDg (mCount (mVw b) n k) 1277 4) n) 0)), (0, .ref (ad 4))] := hl
      refine lv_iconst (v := nI 0) hx hb dX3_digest_113 (by decide) ?_
      refine lv_istore_n (lv' := [(3, .int (nI 0)), (1, .long (mDgs (fun j => mAbout (mVw b) j (cs j)) (mDgc (mTold (mVw b) k) (fun i => mVw b (200 + i)) (mDg (mCount (mVw b) n k) 1277 4) n) 0)), (0, .ref (ad 4))]) hx hb dX3_digest_114 rfl hl (by decide) rfl (fun ls hl => ?_)
      refine mx_loop (β := Nat × (Nat → Nat → Int32)) (fun n9 (bb9 : Nat × (Nat → Nat → Int32)) H locs ls => (fun (j : Nat) (ve : Nat → Nat → Int32) => n9 = k - j ∧ (j ≤ k ∧ mQT v ve (nI 0)) ∧ mE G (mA ad (Sy cy ad cn ck v o) s.heap.size) s.heap ad (Sy cy ad cn ck ve o) H locs ∧ lv_has ls 5 [(3, .int (nI j)), (1, .long (mDgs (fun j => mAbout (mVw b) j (cs j)) (mDgc (mTold (mVw b) k) (fun i => mVw b (200 + i)) (mDg (mCount (mVw b) n k) 1277 4) n) j)), (0, .ref (ad 4))]) (bb9.1) (bb9.2)) ?_ (k - 0) (0, vb) _ _ _ ⟨rfl, ⟨by omega, ⟨fun w h4 h10 h11 => (hqb.1 w h4 h10 h11), hqb.2.1, ((hqb.2.2.1.trans hm1).trans hm1.symm), ((hqb.2.2.2.trans hm2).trans hm2.symm)⟩⟩, hE, lv_sub hl [0, 1, 2] rfl⟩
      intro n9 bb9 H locs ls hI ih17
      obtain ⟨j, ve⟩ := bb9
      obtain ⟨hn18, ⟨hle_j, hqe⟩, hE, hl⟩ := hI
      have hE : mE G (mA ad (Sy cy ad cn ck v o) s.heap.size) s.heap ad (Sy cy ad cn ck ve o) H locs := hE
      have hl : lv_has ls 5 [(3, .int (nI j)), (1, .long (mDgs (fun j => mAbout (mVw b) j (cs j)) (mDgc (mTold (mVw b) k) (fun i => mVw b (200 + i)) (mDg (mCount (mVw b) n k) 1277 4) n) j)), (0, .ref (ad 4))] := hl
      refine lv_iload_n hx hb dX3_digest_115 rfl (lv_at hl 0 rfl) ?_
      refine lv_aload_n hx hb dX3_digest_116 rfl (lv_at hl 2 rfl) ?_
      refine va_get (D := G) (ci := 3) (v := .int (nI k)) (C := RX3) (T := TX3) (N := 11) hx hb hts hiX3 hown hN.1 (mE_P1 hE (S_4f hqe.2.1 (hqe.2.2.1.trans hm1) (hqe.2.2.2.trans hm2) rfl)) 0 rfl rfl 2 (by decide) (hts (.fieldLink RX3 42 "SealedCupboardsModel" "seals" "I") (by decide +kernel)) (fun _ h9 => h9) rfl dX3_digest_117 ?_
      refine mv_ge (tgt := 159) hx hb (by omega) (by omega) dX3_digest_120 (by decide) (fun c19 => ?_) (fun c19 => ?_)
      · skip
        refine lv_lload_n hx hb dX3_digest_159 rfl (lv_at hl 1 rfl) ?_
        exact mx_lret hx hb hr hE hlocks ⟨by rw [show j = k by omega]; rfl, ⟨ve, rfl, fun w h4 h10 h11 => (hqe.1 w h4 h10 h11), hqe.2.1, ((hqe.2.2.1.trans hm1).trans hm1.symm), ((hqe.2.2.2.trans hm2).trans hm2.symm)⟩⟩ dX3_digest_160
      · skip
        have h_j : j < k := c19
        refine lv_iconst (v := nI 0) hx hb dX3_digest_123 (by decide) ?_
        refine lv_istore (lv' := [(4, .int (nI 0)), (3, .int (nI j)), (1, .long (mDgs (fun j => mAbout (mVw b) j (cs j)) (mDgc (mTold (mVw b) k) (fun i => mVw b (200 + i)) (mDg (mCount (mVw b) n k) 1277 4) n) j)), (0, .ref (ad 4))]) hx hb dX3_digest_124 hl (by decide) rfl (fun ls hl => ?_)
        refine mx_loop (β := Nat × (Nat → Nat → Int32)) (fun n9 (bb9 : Nat × (Nat → Nat → Int32)) H locs ls => (fun (x9 : Nat) (vf : Nat → Nat → Int32) => n9 = 4 - x9 ∧ (x9 ≤ 4 ∧ mQT v vf (nI 0)) ∧ mE G (mA ad (Sy cy ad cn ck v o) s.heap.size) s.heap ad (Sy cy ad cn ck vf o) H locs ∧ lv_has ls 5 [(4, .int (nI x9)), (3, .int (nI j)), (1, .long (mDg (mAbout (mVw b) j (cs j)) (mDgs (fun j => mAbout (mVw b) j (cs j)) (mDgc (mTold (mVw b) k) (fun i => mVw b (200 + i)) (mDg (mCount (mVw b) n k) 1277 4) n) j) x9)), (0, .ref (ad 4))]) (bb9.1) (bb9.2)) ?_ (4 - 0) (0, ve) _ _ _ ⟨rfl, ⟨by omega, ⟨fun w h4 h10 h11 => (hqe.1 w h4 h10 h11), hqe.2.1, ((hqe.2.2.1.trans hm1).trans hm1.symm), ((hqe.2.2.2.trans hm2).trans hm2.symm)⟩⟩, hE, lv_sub hl [0, 1, 2, 3] rfl⟩
        intro n9 bb9 H locs ls hI ih20
        obtain ⟨x9, vf⟩ := bb9
        obtain ⟨hn21, ⟨hle_x9, hqf⟩, hE, hl⟩ := hI
        have hE : mE G (mA ad (Sy cy ad cn ck v o) s.heap.size) s.heap ad (Sy cy ad cn ck vf o) H locs := hE
        have hl : lv_has ls 5 [(4, .int (nI x9)), (3, .int (nI j)), (1, .long (mDg (mAbout (mVw b) j (cs j)) (mDgs (fun j => mAbout (mVw b) j (cs j)) (mDgc (mTold (mVw b) k) (fun i => mVw b (200 + i)) (mDg (mCount (mVw b) n k) 1277 4) n) j) x9)), (0, .ref (ad 4))] := hl
        refine lv_iload hx hb dX3_digest_126 (lv_at hl 0 rfl) ?_
        refine lv_iconst (v := nI 4) hx hb dX3_digest_128 (by decide) ?_
        refine mv_ge (tgt := 153) hx hb (by omega) (by omega) dX3_digest_129 (by decide) (fun c22 => ?_) (fun c22 => ?_)
        · skip
          have e9 : x9 = 4 := by omega
          subst e9
          have hl : lv_has ls 5 [(4, .int (nI 4)), (3, .int (nI j)), (1, .long (mDgs (fun j => mAbout (mVw b) j (cs j)) (mDgc (mTold (mVw b) k) (fun i => mVw b (200 + i)) (mDg (mCount (mVw b) n k) 1277 4) n) (j + 1))), (0, .ref (ad 4))] := hl
          refine lv_iinc (v := nI (j + 1)) (lv' := [(3, .int (nI (j + 1))), (4, .int (nI 4)), (1, .long (mDgs (fun j => mAbout (mVw b) j (cs j)) (mDgc (mTold (mVw b) k) (fun i => mVw b (200 + i)) (mDg (mCount (mVw b) n k) 1277 4) n) (j + 1))), (0, .ref (ad 4))]) hx hb dX3_digest_153 hl (k := 1) rfl (nI_add _ _) (by decide) rfl (fun ls hl => ?_)
          refine lv_goto (tgt := 115) hx hb dX3_digest_156 (by decide) ?_
          exact ih17 (k - (j + 1)) (j + 1, vf) _ _ _ (by rw [hn18]; omega) ⟨rfl, ⟨by omega, ⟨fun w h4 h10 h11 => (hqf.1 w h4 h10 h11), hqf.2.1, ((hqf.2.2.1.trans hm1).trans hm1.symm), ((hqf.2.2.2.trans hm2).trans hm2.symm)⟩⟩, hE, lv_sub hl [0, 2, 3] rfl⟩
        · skip
          refine lv_lload_n hx hb dX3_digest_132 rfl (lv_at hl 2 rfl) ?_
          refine lv_ldc2 (v := 31) hx hb hown (hts (.constantLong RX3 114 31) (by decide +kernel)) dX3_digest_133 ?_
          refine lv_lmul hx hb dX3_digest_136 ?_
          refine lv_aload_n hx hb dX3_digest_137 rfl (lv_at hl 3 rfl) ?_
          refine lv_iload_n hx hb dX3_digest_138 rfl (lv_at hl 1 rfl) ?_
          refine lv_iload hx hb dX3_digest_139 (lv_at hl 0 rfl) ?_
          refine va_calli (va_runV (As := [.int (nI j), .int (nI x9)]) (rest := [.long ((mDg (mAbout (mVw b) j (cs j)) (mDgs (fun j => mAbout (mVw b) j (cs j)) (mDgc (mTold (mVw b) k) (fun i => mVw b (200 + i)) (mDg (mCount (mVw b) n k) 1277 4) n) j) x9) * (31 : Int64))]) ⟨hx, hb, hml, hown, hts⟩ (c_X3_sealTold l G cy ad cn ck n k vf o hn hk _ (hqf.2.2.1.trans hm1) (hqf.2.2.2.trans hm2) j x9 h_j (by omega) ((hqf.1 6 (by decide) (by decide) (by decide)).trans h6) ((hqf.1 7 (by decide) (by decide) (by decide)).trans h7) ((hqf.1 8 (by decide) (by decide) (by decide)).trans h8) ((hqf.1 9 (by decide) (by decide) (by decide)).trans h9) (cs j) (hcs j h_j).1 (hcs j h_j).2) (cwV 2 hts gX3_digest_X3_sealTold rfl rfl rfl (by decide +kernel) ⟨Nat.le_of_ble_eq_true rfl, Nat.le_of_ble_eq_true rfl⟩) (mP_V (r := (RX3, TX3, 11)) hN hE (S_4f hqf.2.1 (hqf.2.2.1.trans hm1) (hqf.2.2.2.trans hm2) rfl) rfl) rfl rfl hl.1 rfl (lv_room (Nat.le_of_ble_eq_true rfl)) dX3_digest_141 ⟨Nat.le_of_ble_eq_true rfl, Nat.le_of_ble_eq_true rfl⟩) hE.2.2.2 (fun q _ h => mE_A hE q h) (mE_A hE) (fun r uq tq H locs ht hvm hw hB hz1 hk1 hS => ?_)
          obtain ⟨rfl, rfl⟩ := hw
          have hE : mE G (mA ad (Sy cy ad cn ck v o) s.heap.size) s.heap ad (Sy cy ad cn ck vf o) H locs := mE_call hE hB ht hS
          refine lv_i2l hx hb dX3_digest_144 rfl ?_
          refine lv_ladd hx hb dX3_digest_145 ?_
          refine lv_lstore_n (lv' := [(1, .long (((mDg (mAbout (mVw b) j (cs j)) (mDgs (fun j => mAbout (mVw b) j (cs j)) (mDgc (mTold (mVw b) k) (fun i => mVw b (200 + i)) (mDg (mCount (mVw b) n k) 1277 4) n) j) x9) * (31 : Int64)) + ((mAbout (mVw b) j (cs j) x9).toInt64))), (4, .int (nI x9)), (3, .int (nI j)), (0, .ref (ad 4))]) hx hb dX3_digest_146 rfl hl (by decide) rfl (fun ls hl => ?_)
          have hl : lv_has ls 5 [(1, .long (mDg (mAbout (mVw b) j (cs j)) (mDgs (fun j => mAbout (mVw b) j (cs j)) (mDgc (mTold (mVw b) k) (fun i => mVw b (200 + i)) (mDg (mCount (mVw b) n k) 1277 4) n) j) (x9 + 1))), (4, .int (nI x9)), (3, .int (nI j)), (0, .ref (ad 4))] := hl
          refine lv_iinc (v := nI (x9 + 1)) (lv' := [(4, .int (nI (x9 + 1))), (1, .long (mDg (mAbout (mVw b) j (cs j)) (mDgs (fun j => mAbout (mVw b) j (cs j)) (mDgc (mTold (mVw b) k) (fun i => mVw b (200 + i)) (mDg (mCount (mVw b) n k) 1277 4) n) j) (x9 + 1))), (3, .int (nI j)), (0, .ref (ad 4))]) hx hb dX3_digest_147 hl (k := 1) rfl (nI_add _ _) (by decide) rfl (fun ls hl => ?_)
          refine lv_goto (tgt := 126) hx hb dX3_digest_150 (by decide) ?_
          exact ih20 (4 - (x9 + 1)) (x9 + 1, vf) _ _ _ (by rw [hn21]; omega) ⟨rfl, ⟨by omega, ⟨fun w h4 h10 h11 => (hqf.1 w h4 h10 h11), hqf.2.1, ((hqf.2.2.1.trans hm1).trans hm1.symm), ((hqf.2.2.2.trans hm2).trans hm2.symm)⟩⟩, hE, lv_sub hl [0, 2, 1, 3] rfl⟩
    · skip
      have h_i : i < n := c16
      refine lv_iconst (v := nI 0) hx hb dX3_digest_45 (by decide) ?_
      refine lv_istore (lv' := [(4, .int (nI 0)), (3, .int (nI i)), (1, .long (mDgc (mTold (mVw b) k) (fun i => mVw b (200 + i)) (mDg (mCount (mVw b) n k) 1277 4) i)), (0, .ref (ad 4))]) hx hb dX3_digest_46 hl (by decide) rfl (fun ls hl => ?_)
      refine mx_loop (β := Nat × (Nat → Nat → Int32)) (fun n9 (bb9 : Nat × (Nat → Nat → Int32)) H locs ls => (fun (y9 : Nat) (vc : Nat → Nat → Int32) => n9 = 6 - y9 ∧ (y9 ≤ 6 ∧ mQT v vc (nI 0)) ∧ mE G (mA ad (Sy cy ad cn ck v o) s.heap.size) s.heap ad (Sy cy ad cn ck vc o) H locs ∧ lv_has ls 5 [(4, .int (nI y9)), (3, .int (nI i)), (1, .long (mDg (mTold (mVw b) k i) (mDgc (mTold (mVw b) k) (fun i => mVw b (200 + i)) (mDg (mCount (mVw b) n k) 1277 4) i) y9)), (0, .ref (ad 4))]) (bb9.1) (bb9.2)) ?_ (6 - 0) (0, vb) _ _ _ ⟨rfl, ⟨by omega, ⟨fun w h4 h10 h11 => (hqb.1 w h4 h10 h11), hqb.2.1, ((hqb.2.2.1.trans hm1).trans hm1.symm), ((hqb.2.2.2.trans hm2).trans hm2.symm)⟩⟩, hE, lv_sub hl [0, 1, 2, 3] rfl⟩
      intro n9 bb9 H locs ls hI ih23
      obtain ⟨y9, vc⟩ := bb9
      obtain ⟨hn24, ⟨hle_y9, hqc⟩, hE, hl⟩ := hI
      have hE : mE G (mA ad (Sy cy ad cn ck v o) s.heap.size) s.heap ad (Sy cy ad cn ck vc o) H locs := hE
      have hl : lv_has ls 5 [(4, .int (nI y9)), (3, .int (nI i)), (1, .long (mDg (mTold (mVw b) k i) (mDgc (mTold (mVw b) k) (fun i => mVw b (200 + i)) (mDg (mCount (mVw b) n k) 1277 4) i) y9)), (0, .ref (ad 4))] := hl
      refine lv_iload hx hb dX3_digest_48 (lv_at hl 0 rfl) ?_
      refine lv_bipush (v := nI 6) hx hb dX3_digest_50 (by decide) ?_
      refine mv_ge (tgt := 76) hx hb (by omega) (by omega) dX3_digest_52 (by decide) (fun c25 => ?_) (fun c25 => ?_)
      · skip
        have e9 : y9 = 6 := by omega
        subst e9
        have hl : lv_has ls 5 [(4, .int (nI 6)), (3, .int (nI i)), (1, .long (mDg (mVw b (200 + i)) (mDg (mTold (mVw b) k i) (mDgc (mTold (mVw b) k) (fun i => mVw b (200 + i)) (mDg (mCount (mVw b) n k) 1277 4) i) 6) 0)), (0, .ref (ad 4))] := hl
        refine lv_iconst (v := nI 0) hx hb dX3_digest_76 (by decide) ?_
        refine lv_istore (lv' := [(4, .int (nI 0)), (3, .int (nI i)), (1, .long (mDg (mVw b (200 + i)) (mDg (mTold (mVw b) k i) (mDgc (mTold (mVw b) k) (fun i => mVw b (200 + i)) (mDg (mCount (mVw b) n k) 1277 4) i) 6) 0)), (0, .ref (ad 4))]) hx hb dX3_digest_77 hl (by decide) rfl (fun ls hl => ?_)
        refine mx_loop (β := Nat × (Nat → Nat → Int32)) (fun n9 (bb9 : Nat × (Nat → Nat → Int32)) H locs ls => (fun (z9 : Nat) (vd : Nat → Nat → Int32) => n9 = 16 - z9 ∧ (z9 ≤ 16 ∧ mQT v vd (nI 0)) ∧ mE G (mA ad (Sy cy ad cn ck v o) s.heap.size) s.heap ad (Sy cy ad cn ck vd o) H locs ∧ lv_has ls 5 [(4, .int (nI z9)), (3, .int (nI i)), (1, .long (mDg (mVw b (200 + i)) (mDg (mTold (mVw b) k i) (mDgc (mTold (mVw b) k) (fun i => mVw b (200 + i)) (mDg (mCount (mVw b) n k) 1277 4) i) 6) z9)), (0, .ref (ad 4))]) (bb9.1) (bb9.2)) ?_ (16 - 0) (0, vc) _ _ _ ⟨rfl, ⟨by omega, ⟨fun w h4 h10 h11 => (hqc.1 w h4 h10 h11), hqc.2.1, ((hqc.2.2.1.trans hm1).trans hm1.symm), ((hqc.2.2.2.trans hm2).trans hm2.symm)⟩⟩, hE, lv_sub hl [0, 1, 2, 3] rfl⟩
        intro n9 bb9 H locs ls hI ih26
        obtain ⟨z9, vd⟩ := bb9
        obtain ⟨hn27, ⟨hle_z9, hqd⟩, hE, hl⟩ := hI
        have hE : mE G (mA ad (Sy cy ad cn ck v o) s.heap.size) s.heap ad (Sy cy ad cn ck vd o) H locs := hE
        have hl : lv_has ls 5 [(4, .int (nI z9)), (3, .int (nI i)), (1, .long (mDg (mVw b (200 + i)) (mDg (mTold (mVw b) k i) (mDgc (mTold (mVw b) k) (fun i => mVw b (200 + i)) (mDg (mCount (mVw b) n k) 1277 4) i) 6) z9)), (0, .ref (ad 4))] := hl
        refine lv_iload hx hb dX3_digest_79 (lv_at hl 0 rfl) ?_
        refine lv_bipush (v := nI 16) hx hb dX3_digest_81 (by decide) ?_
        refine mv_ge (tgt := 107) hx hb (by omega) (by omega) dX3_digest_83 (by decide) (fun c28 => ?_) (fun c28 => ?_)
        · skip
          have e9 : z9 = 16 := by omega
          subst e9
          have hl : lv_has ls 5 [(4, .int (nI 16)), (3, .int (nI i)), (1, .long (mDgc (mTold (mVw b) k) (fun i => mVw b (200 + i)) (mDg (mCount (mVw b) n k) 1277 4) (i + 1))), (0, .ref (ad 4))] := hl
          refine lv_iinc (v := nI (i + 1)) (lv' := [(3, .int (nI (i + 1))), (4, .int (nI 16)), (1, .long (mDgc (mTold (mVw b) k) (fun i => mVw b (200 + i)) (mDg (mCount (mVw b) n k) 1277 4) (i + 1))), (0, .ref (ad 4))]) hx hb dX3_digest_107 hl (k := 1) rfl (nI_add _ _) (by decide) rfl (fun ls hl => ?_)
          refine lv_goto (tgt := 37) hx hb dX3_digest_110 (by decide) ?_
          exact ih14 (n - (i + 1)) (i + 1, vd) _ _ _ (by rw [hn15]; omega) ⟨rfl, ⟨by omega, ⟨fun w h4 h10 h11 => (hqd.1 w h4 h10 h11), hqd.2.1, ((hqd.2.2.1.trans hm1).trans hm1.symm), ((hqd.2.2.2.trans hm2).trans hm2.symm)⟩⟩, hE, lv_sub hl [0, 2, 3] rfl⟩
        · skip
          refine lv_lload_n hx hb dX3_digest_86 rfl (lv_at hl 2 rfl) ?_
          refine lv_ldc2 (v := 31) hx hb hown (hts (.constantLong RX3 114 31) (by decide +kernel)) dX3_digest_87 ?_
          refine lv_lmul hx hb dX3_digest_90 ?_
          refine lv_aload_n hx hb dX3_digest_91 rfl (lv_at hl 3 rfl) ?_
          refine lv_iload_n hx hb dX3_digest_92 rfl (lv_at hl 1 rfl) ?_
          refine lv_iload hx hb dX3_digest_93 (lv_at hl 0 rfl) ?_
          refine va_calli (va_runV (As := [.int (nI i), .int (nI z9)]) (rest := [.long ((mDg (mVw b (200 + i)) (mDg (mTold (mVw b) k i) (mDgc (mTold (mVw b) k) (fun i => mVw b (200 + i)) (mDg (mCount (mVw b) n k) 1277 4) i) 6) z9) * (31 : Int64))]) ⟨hx, hb, hml, hown, hts⟩ (c_X3_th l G cy ad cn ck n k vd o hn hk _ (hqd.2.2.1.trans hm1) (hqd.2.2.2.trans hm2) i z9 h_i (by omega) ((hqd.1 5 (by decide) (by decide) (by decide)).trans h5)) (cwV 2 hts gX3_digest_X3_th rfl rfl rfl (by decide +kernel) ⟨Nat.le_of_ble_eq_true rfl, Nat.le_of_ble_eq_true rfl⟩) (mP_V (r := (RX3, TX3, 11)) hN hE (S_4f hqd.2.1 (hqd.2.2.1.trans hm1) (hqd.2.2.2.trans hm2) rfl) rfl) rfl rfl hl.1 rfl (lv_room (Nat.le_of_ble_eq_true rfl)) dX3_digest_95 ⟨Nat.le_of_ble_eq_true rfl, Nat.le_of_ble_eq_true rfl⟩) hE.2.2.2 (fun q _ h => mE_A hE q h) (mE_A hE) (fun r uq tq H locs ht hvm hw hB hz1 hk1 hS => ?_)
          obtain ⟨rfl, rfl⟩ := hw
          have hE : mE G (mA ad (Sy cy ad cn ck v o) s.heap.size) s.heap ad (Sy cy ad cn ck vd o) H locs := mE_call hE hB ht hS
          refine lv_i2l hx hb dX3_digest_98 rfl ?_
          refine lv_ladd hx hb dX3_digest_99 ?_
          refine lv_lstore_n (lv' := [(1, .long (((mDg (mVw b (200 + i)) (mDg (mTold (mVw b) k i) (mDgc (mTold (mVw b) k) (fun i => mVw b (200 + i)) (mDg (mCount (mVw b) n k) 1277 4) i) 6) z9) * (31 : Int64)) + (((b 5) (16 * i + z9)).toInt64))), (4, .int (nI z9)), (3, .int (nI i)), (0, .ref (ad 4))]) hx hb dX3_digest_100 rfl hl (by decide) rfl (fun ls hl => ?_)
          have e9 : mDg (mVw b (200 + i)) (mDg (mTold (mVw b) k i) (mDgc (mTold (mVw b) k) (fun i => mVw b (200 + i)) (mDg (mCount (mVw b) n k) 1277 4) i) 6) z9 * 31 + (b 5 (16 * i + z9)).toInt64 = mDg (mVw b (200 + i)) (mDg (mTold (mVw b) k i) (mDgc (mTold (mVw b) k) (fun i => mVw b (200 + i)) (mDg (mCount (mVw b) n k) 1277 4) i) 6) (z9 + 1) := by simp only [mDg]; rw [mVw_t (show i < 100 by omega)]
          have hl : lv_has ls 5 [(1, .long (mDg (mVw b (200 + i)) (mDg (mTold (mVw b) k i) (mDgc (mTold (mVw b) k) (fun i => mVw b (200 + i)) (mDg (mCount (mVw b) n k) 1277 4) i) 6) (z9 + 1))), (4, .int (nI z9)), (3, .int (nI i)), (0, .ref (ad 4))] := by rw [← e9]; exact hl
          refine lv_iinc (v := nI (z9 + 1)) (lv' := [(4, .int (nI (z9 + 1))), (1, .long (mDg (mVw b (200 + i)) (mDg (mTold (mVw b) k i) (mDgc (mTold (mVw b) k) (fun i => mVw b (200 + i)) (mDg (mCount (mVw b) n k) 1277 4) i) 6) (z9 + 1))), (3, .int (nI i)), (0, .ref (ad 4))]) hx hb dX3_digest_101 hl (k := 1) rfl (nI_add _ _) (by decide) rfl (fun ls hl => ?_)
          refine lv_goto (tgt := 79) hx hb dX3_digest_104 (by decide) ?_
          exact ih26 (16 - (z9 + 1)) (z9 + 1, vd) _ _ _ (by rw [hn27]; omega) ⟨rfl, ⟨by omega, ⟨fun w h4 h10 h11 => (hqd.1 w h4 h10 h11), hqd.2.1, ((hqd.2.2.1.trans hm1).trans hm1.symm), ((hqd.2.2.2.trans hm2).trans hm2.symm)⟩⟩, hE, lv_sub hl [0, 2, 1, 3] rfl⟩
      · skip
        refine lv_lload_n hx hb dX3_digest_55 rfl (lv_at hl 2 rfl) ?_
        refine lv_ldc2 (v := 31) hx hb hown (hts (.constantLong RX3 114 31) (by decide +kernel)) dX3_digest_56 ?_
        refine lv_lmul hx hb dX3_digest_59 ?_
        refine lv_aload_n hx hb dX3_digest_60 rfl (lv_at hl 3 rfl) ?_
        refine lv_iload_n hx hb dX3_digest_61 rfl (lv_at hl 1 rfl) ?_
        refine lv_iload hx hb dX3_digest_62 (lv_at hl 0 rfl) ?_
        refine va_calli (va_runV (As := [.int (nI i), .int (nI y9)]) (rest := [.long ((mDg (mTold (mVw b) k i) (mDgc (mTold (mVw b) k) (fun i => mVw b (200 + i)) (mDg (mCount (mVw b) n k) 1277 4) i) y9) * (31 : Int64))]) ⟨hx, hb, hml, hown, hts⟩ (c_X3_toldOf l G cy ad cn ck n k vc o hn hk _ (hqc.2.2.1.trans hm1) (hqc.2.2.2.trans hm2) i y9 h_i (by omega) ((hqc.1 5 (by decide) (by decide) (by decide)).trans h5) ((hqc.1 6 (by decide) (by decide) (by decide)).trans h6) ((hqc.1 7 (by decide) (by decide) (by decide)).trans h7) ((hqc.1 8 (by decide) (by decide) (by decide)).trans h8)) (cwV 2 hts gX3_digest_X3_toldOf rfl rfl rfl (by decide +kernel) ⟨Nat.le_of_ble_eq_true rfl, Nat.le_of_ble_eq_true rfl⟩) (mP_V (r := (RX3, TX3, 11)) hN hE (S_4f hqc.2.1 (hqc.2.2.1.trans hm1) (hqc.2.2.2.trans hm2) rfl) rfl) rfl rfl hl.1 rfl (lv_room (Nat.le_of_ble_eq_true rfl)) dX3_digest_64 ⟨Nat.le_of_ble_eq_true rfl, Nat.le_of_ble_eq_true rfl⟩) hE.2.2.2 (fun q _ h => mE_A hE q h) (mE_A hE) (fun r uq tq H locs ht hvm hw hB hz1 hk1 hS => ?_)
        obtain ⟨rfl, kv29, rfl, kq30⟩ := hw
        have hE : mE G (mA ad (Sy cy ad cn ck v o) s.heap.size) s.heap ad (Sy cy ad cn ck kv29 o) H locs := mE_call hE hB ht hS
        have ke31 : kv29 5 = b 5 := (kq30.1 5 (by decide) (by decide) (by decide)).trans ((hqc.1 5 (by decide) (by decide) (by decide)).trans h5)
        have ke32 : kv29 6 = b 6 := (kq30.1 6 (by decide) (by decide) (by decide)).trans ((hqc.1 6 (by decide) (by decide) (by decide)).trans h6)
        have ke33 : kv29 7 = b 7 := (kq30.1 7 (by decide) (by decide) (by decide)).trans ((hqc.1 7 (by decide) (by decide) (by decide)).trans h7)
        have ke34 : kv29 8 = b 8 := (kq30.1 8 (by decide) (by decide) (by decide)).trans ((hqc.1 8 (by decide) (by decide) (by decide)).trans h8)
        have ke35 : kv29 9 = b 9 := (kq30.1 9 (by decide) (by decide) (by decide)).trans ((hqc.1 9 (by decide) (by decide) (by decide)).trans h9)
        have kf36 : kv29 4 0 = nI 0 := (kq30.2.1).trans hqc.2.1
        have kf37 : kv29 4 1 = nI n := (kq30.2.2.1).trans (hqc.2.2.1.trans hm1)
        have kf38 : kv29 4 2 = nI k := (kq30.2.2.2).trans (hqc.2.2.2.trans hm2)
        refine lv_i2l hx hb dX3_digest_67 rfl ?_
        refine lv_ladd hx hb dX3_digest_68 ?_
        refine lv_lstore_n (lv' := [(1, .long (((mDg (mTold (mVw b) k i) (mDgc (mTold (mVw b) k) (fun i => mVw b (200 + i)) (mDg (mCount (mVw b) n k) 1277 4) i) y9) * (31 : Int64)) + ((mTold (mVw b) k i y9).toInt64))), (4, .int (nI y9)), (3, .int (nI i)), (0, .ref (ad 4))]) hx hb dX3_digest_69 rfl hl (by decide) rfl (fun ls hl => ?_)
        have hl : lv_has ls 5 [(1, .long (mDg (mTold (mVw b) k i) (mDgc (mTold (mVw b) k) (fun i => mVw b (200 + i)) (mDg (mCount (mVw b) n k) 1277 4) i) (y9 + 1))), (4, .int (nI y9)), (3, .int (nI i)), (0, .ref (ad 4))] := hl
        refine lv_iinc (v := nI (y9 + 1)) (lv' := [(4, .int (nI (y9 + 1))), (1, .long (mDg (mTold (mVw b) k i) (mDgc (mTold (mVw b) k) (fun i => mVw b (200 + i)) (mDg (mCount (mVw b) n k) 1277 4) i) (y9 + 1))), (3, .int (nI i)), (0, .ref (ad 4))]) hx hb dX3_digest_70 hl (k := 1) rfl (nI_add _ _) (by decide) rfl (fun ls hl => ?_)
        refine lv_goto (tgt := 48) hx hb dX3_digest_73 (by decide) ?_
        exact ih23 (6 - (y9 + 1)) (y9 + 1, kv29) _ _ _ (by rw [hn24]; omega) ⟨rfl, ⟨by omega, ⟨fun w h4 h10 h11 => ((kq30.1 w h4 h10 h11).trans (hqc.1 w h4 h10 h11)), kf36, (kf37.trans hm1.symm), (kf38.trans hm2.symm)⟩⟩, hE, lv_sub hl [0, 2, 1, 3] rfl⟩
  · skip
    refine lv_lload_n hx hb dX3_digest_16 rfl (lv_at hl 1 rfl) ?_
    refine lv_ldc2 (v := 31) hx hb hown (hts (.constantLong RX3 114 31) (by decide +kernel)) dX3_digest_17 ?_
    refine lv_lmul hx hb dX3_digest_20 ?_
    refine lv_aload_n hx hb dX3_digest_21 rfl (lv_at hl 2 rfl) ?_
    refine lv_iload_n hx hb dX3_digest_22 rfl (lv_at hl 0 rfl) ?_
    refine va_calli (va_runV (As := [.int (nI t9)]) (rest := [.long ((mDg (mCount (mVw b) n k) 1277 t9) * (31 : Int64))]) ⟨hx, hb, hml, hown, hts⟩ (c_X3_counted l G cy ad cn ck n k va o hn hk _ (hqa.2.2.1.trans hm1) (hqa.2.2.2.trans hm2) t9 (by omega) ((hqa.1 5 (by decide) (by decide) (by decide)).trans h5) ((hqa.1 6 (by decide) (by decide) (by decide)).trans h6)) (cwV 1 hts gX3_digest_X3_counted rfl rfl rfl (by decide +kernel) ⟨Nat.le_of_ble_eq_true rfl, Nat.le_of_ble_eq_true rfl⟩) (mP_V (r := (RX3, TX3, 11)) hN hE (S_4f hqa.2.1 (hqa.2.2.1.trans hm1) (hqa.2.2.2.trans hm2) rfl) rfl) rfl rfl hl.1 rfl (lv_room (Nat.le_of_ble_eq_true rfl)) dX3_digest_23 ⟨Nat.le_of_ble_eq_true rfl, Nat.le_of_ble_eq_true rfl⟩) hE.2.2.2 (fun q _ h => mE_A hE q h) (mE_A hE) (fun r uq tq H locs ht hvm hw hB hz1 hk1 hS => ?_)
    obtain ⟨rfl, kv39, rfl, kq40⟩ := hw
    have hE : mE G (mA ad (Sy cy ad cn ck v o) s.heap.size) s.heap ad (Sy cy ad cn ck kv39 o) H locs := mE_call hE hB ht hS
    have ke41 : kv39 5 = b 5 := (kq40.1 5 (by decide) (by decide) (by decide)).trans ((hqa.1 5 (by decide) (by decide) (by decide)).trans h5)
    have ke42 : kv39 6 = b 6 := (kq40.1 6 (by decide) (by decide) (by decide)).trans ((hqa.1 6 (by decide) (by decide) (by decide)).trans h6)
    have ke43 : kv39 7 = b 7 := (kq40.1 7 (by decide) (by decide) (by decide)).trans ((hqa.1 7 (by decide) (by decide) (by decide)).trans h7)
    have ke44 : kv39 8 = b 8 := (kq40.1 8 (by decide) (by decide) (by decide)).trans ((hqa.1 8 (by decide) (by decide) (by decide)).trans h8)
    have ke45 : kv39 9 = b 9 := (kq40.1 9 (by decide) (by decide) (by decide)).trans ((hqa.1 9 (by decide) (by decide) (by decide)).trans h9)
    have kf46 : kv39 4 0 = nI 0 := (kq40.2.1).trans hqa.2.1
    have kf47 : kv39 4 1 = nI n := (kq40.2.2.1).trans (hqa.2.2.1.trans hm1)
    have kf48 : kv39 4 2 = nI k := (kq40.2.2.2).trans (hqa.2.2.2.trans hm2)
    refine lv_i2l hx hb dX3_digest_26 rfl ?_
    refine lv_ladd hx hb dX3_digest_27 ?_
    refine lv_lstore_n (lv' := [(1, .long (((mDg (mCount (mVw b) n k) 1277 t9) * (31 : Int64)) + ((mCount (mVw b) n k t9).toInt64))), (3, .int (nI t9)), (0, .ref (ad 4))]) hx hb dX3_digest_28 rfl hl (by decide) rfl (fun ls hl => ?_)
    have hl : lv_has ls 5 [(1, .long (mDg (mCount (mVw b) n k) 1277 (t9 + 1))), (3, .int (nI t9)), (0, .ref (ad 4))] := hl
    refine lv_iinc (v := nI (t9 + 1)) (lv' := [(3, .int (nI (t9 + 1))), (1, .long (mDg (mCount (mVw b) n k) 1277 (t9 + 1))), (0, .ref (ad 4))]) hx hb dX3_digest_29 hl (k := 1) rfl (nI_add _ _) (by decide) rfl (fun ls hl => ?_)
    refine lv_goto (tgt := 11) hx hb dX3_digest_32 (by decide) ?_
    exact ih11 (4 - (t9 + 1)) (t9 + 1, kv39) _ _ _ (by rw [hn12]; omega) ⟨rfl, ⟨by omega, ⟨fun w h4 h10 h11 => ((kq40.1 w h4 h10 h11).trans (hqa.1 w h4 h10 h11)), kf46, (kf47.trans hm1.symm), (kf48.trans hm2.symm)⟩⟩, hE, lv_sub hl [0, 1, 2] rfl⟩
