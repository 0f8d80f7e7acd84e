set_option maxHeartbeats 4000000 in
set_option maxRecDepth 100000 in
/-- sealTold -/
theorem c_X3_sealTold (l : Launch) (G : va_G) (cy : Nat → ClassId) (ad : Nat → Nat) (cn ck n k : Nat) (v : Nat → Nat → Int32) (o : Nat → Int64) (hn : n ≤ 6) (hk : k ≤ 20) (sz : Nat) (hm1 : v 4 1 = nI n) (hm2 : v 4 2 = nI k) (j t9 : Nat) (h_j : j < k) (ht9 : t9 < 4) {b : Nat → Nat → Int32} (h6 : v 6 = b 6) (h7 : v 7 = b 7) (h8 : v 8 = b 8) (h9 : v 9 = b 9) (cu : Nat) (h_cu : cu < n) (hsc : b 7 j = nI cu) : mMi l yX3_sealTold wsX3_sealTold ({ frames := 7, cells := 0, slots := 0, locals := 100 }) G cy ad (Sy cy ad cn ck v o) sz [.ref (ad 4), .int (nI j), .int (nI t9)] 0 0 (fun (r : Int32) u => r = mAbout (mVw b) j cu t9 ∧ u = (ad, Sy cy ad cn ck v o)) := by
  refine Met.ofW (cc := cX3_sealTold) (maxL := 3) (ret := (some .int)) (by decide) rfl ?_
  intro p e s m args below meth c s₁ B hml hv
  obtain ⟨rfl, hv⟩ := hv
  have hsz := hv.1
  subst hsz
  have hN := hv.2.2
  have hE := mP_E hv
  have hx := B.exec
  have hb := B.bytes
  have hr := B.returns
  have hts := atoms_spec (ws := wsX3_sealTold) B.pre
  have hown : s.vm.findClass RX3 = some m.cls := findClass_of_methodNamed B.named
  have hlocks := B.notSynchronized
  have hiX3 : ∀ w ∈ wsX30, w ∈ wsX3_sealTold := by decide +kernel
  have hl := lv_entry ([.ref (ad 4), .int (nI j), .int (nI t9)]) (n := 3) (Nat.le_of_ble_eq_true rfl)
  rw [lg_entry_eq]
  generalize (lg_sl ([.ref (ad 4), .int (nI j), .int (nI t9)]) ++ List.replicate (3 - (lg_sl ([.ref (ad 4), .int (nI j), .int (nI t9)])).length) Slot.unset).toArray = ls at hl ⊢
  have hl : lv_has ls 3 [(0, .ref (ad 4)), (1, .int (nI j)), (2, .int (nI t9))] := hl
  rcases (show t9 = 0 ∨ t9 = 1 ∨ t9 = 2 ∨ t9 = 3 by omega) with rfl | rfl | rfl | rfl
  · skip
    have hl : lv_has ls 3 [(0, .ref (ad 4)), (1, .int (nI j)), (2, .int (nI 0))] := hl
    refine lv_iload_n hx hb dX3_sealTold_0 rfl (lv_at hl 2 rfl) ?_
    refine lv_if_ne (tgt := 13) hx hb dX3_sealTold_1 (by decide) (fun c1 => ?_) (fun c1 => ?_)
    · skip
      have c1 : ¬ 0 = 0 := fun h9 => c1 ((mz_eq (by omega)).mpr h9)
      exfalso; omega
    · skip
      have c1 := (mz_eq (by omega)).mp c1
      refine lv_aload_n hx hb dX3_sealTold_4 rfl (lv_at hl 0 rfl) ?_
      refine va_get (D := G) (ci := 3) (v := .ref (ad 7)) (C := RX3) (T := TX3) (N := 11) hx hb hts hiX3 hown hN.1 (mE_P1 hE (S_4f rfl hm1 hm2 rfl)) 0 rfl rfl 5 (by decide) (hts (.fieldLink RX3 16 "SealedCupboardsModel" "sealed" "[I") (by decide +kernel)) (fun _ h9 => h9) rfl dX3_sealTold_5 ?_
      refine lv_iload_n hx hb dX3_sealTold_8 rfl (lv_at hl 1 rfl) ?_
      refine mx_iald hx hb hN hE (S_7e h7) (j := j) rfl (by omega) (by decide) dX3_sealTold_9 ?_
      refine lv_goto (tgt := 59) hx hb dX3_sealTold_10 (by decide) ?_
      exact mx_iret hx hb hr hE hlocks ⟨hsc, rfl⟩ dX3_sealTold_59
  · skip
    have hl : lv_has ls 3 [(0, .ref (ad 4)), (1, .int (nI j)), (2, .int (nI 1))] := hl
    refine lv_iload_n hx hb dX3_sealTold_0 rfl (lv_at hl 2 rfl) ?_
    refine lv_if_ne (tgt := 13) hx hb dX3_sealTold_1 (by decide) (fun c2 => ?_) (fun c2 => ?_)
    · skip
      have c2 : ¬ 1 = 0 := fun h9 => c2 ((mz_eq (by omega)).mpr h9)
      refine lv_iload_n hx hb dX3_sealTold_13 rfl (lv_at hl 2 rfl) ?_
      refine lv_iconst (v := nI 1) hx hb dX3_sealTold_14 (by decide) ?_
      refine mv_ne (tgt := 27) hx hb (by omega) (by omega) dX3_sealTold_15 (by decide) (fun c3 => ?_) (fun c3 => ?_)
      · skip
        exfalso; omega
      · skip
        refine lv_aload_n hx hb dX3_sealTold_18 rfl (lv_at hl 0 rfl) ?_
        refine va_get (D := G) (ci := 3) (v := .ref (ad 8)) (C := RX3) (T := TX3) (N := 11) hx hb hts hiX3 hown hN.1 (mE_P1 hE (S_4f rfl hm1 hm2 rfl)) 0 rfl rfl 6 (by decide) (hts (.fieldLink RX3 19 "SealedCupboardsModel" "roots" "[I") (by decide +kernel)) (fun _ h9 => h9) rfl dX3_sealTold_19 ?_
        refine lv_iload_n hx hb dX3_sealTold_22 rfl (lv_at hl 1 rfl) ?_
        refine mx_iald hx hb hN hE (S_8e h8) (j := j) rfl (by omega) (by decide) dX3_sealTold_23 ?_
        refine lv_goto (tgt := 59) hx hb dX3_sealTold_24 (by decide) ?_
        exact mx_iret hx hb hr hE hlocks ⟨mVw_1.symm, rfl⟩ dX3_sealTold_59
    · skip
      have c2 := (mz_eq (by omega)).mp c2
      exfalso; omega
  · skip
    have hl : lv_has ls 3 [(0, .ref (ad 4)), (1, .int (nI j)), (2, .int (nI 2))] := hl
    refine lv_iload_n hx hb dX3_sealTold_0 rfl (lv_at hl 2 rfl) ?_
    refine lv_if_ne (tgt := 13) hx hb dX3_sealTold_1 (by decide) (fun c4 => ?_) (fun c4 => ?_)
    · skip
      have c4 : ¬ 2 = 0 := fun h9 => c4 ((mz_eq (by omega)).mpr h9)
      refine lv_iload_n hx hb dX3_sealTold_13 rfl (lv_at hl 2 rfl) ?_
      refine lv_iconst (v := nI 1) hx hb dX3_sealTold_14 (by decide) ?_
      refine mv_ne (tgt := 27) hx hb (by omega) (by omega) dX3_sealTold_15 (by decide) (fun c5 => ?_) (fun c5 => ?_)
      · skip
        refine lv_iload_n hx hb dX3_sealTold_27 rfl (lv_at hl 2 rfl) ?_
        refine lv_iconst (v := nI 2) hx hb dX3_sealTold_28 (by decide) ?_
        refine mv_ne (tgt := 41) hx hb (by omega) (by omega) dX3_sealTold_29 (by decide) (fun c6 => ?_) (fun c6 => ?_)
        · skip
          exfalso; omega
        · skip
          refine lv_aload_n hx hb dX3_sealTold_32 rfl (lv_at hl 0 rfl) ?_
          refine va_get (D := G) (ci := 3) (v := .ref (ad 9)) (C := RX3) (T := TX3) (N := 11) hx hb hts hiX3 hown hN.1 (mE_P1 hE (S_4f rfl hm1 hm2 rfl)) 0 rfl rfl 7 (by decide) (hts (.fieldLink RX3 22 "SealedCupboardsModel" "then" "[I") (by decide +kernel)) (fun _ h9 => h9) rfl dX3_sealTold_33 ?_
          refine lv_iload_n hx hb dX3_sealTold_36 rfl (lv_at hl 1 rfl) ?_
          refine mx_iald hx hb hN hE (S_9e h9) (j := j) rfl (by omega) (by decide) dX3_sealTold_37 ?_
          refine lv_goto (tgt := 59) hx hb dX3_sealTold_38 (by decide) ?_
          exact mx_iret hx hb hr hE hlocks ⟨mVw_2.symm, rfl⟩ dX3_sealTold_59
      · skip
        exfalso; omega
    · skip
      have c4 := (mz_eq (by omega)).mp c4
      exfalso; omega
  · skip
    have hl : lv_has ls 3 [(0, .ref (ad 4)), (1, .int (nI j)), (2, .int (nI 3))] := hl
    refine lv_iload_n hx hb dX3_sealTold_0 rfl (lv_at hl 2 rfl) ?_
    refine lv_if_ne (tgt := 13) hx hb dX3_sealTold_1 (by decide) (fun c7 => ?_) (fun c7 => ?_)
    · skip
      have c7 : ¬ 3 = 0 := fun h9 => c7 ((mz_eq (by omega)).mpr h9)
      refine lv_iload_n hx hb dX3_sealTold_13 rfl (lv_at hl 2 rfl) ?_
      refine lv_iconst (v := nI 1) hx hb dX3_sealTold_14 (by decide) ?_
      refine mv_ne (tgt := 27) hx hb (by omega) (by omega) dX3_sealTold_15 (by decide) (fun c8 => ?_) (fun c8 => ?_)
      · skip
        refine lv_iload_n hx hb dX3_sealTold_27 rfl (lv_at hl 2 rfl) ?_
        refine lv_iconst (v := nI 2) hx hb dX3_sealTold_28 (by decide) ?_
        refine mv_ne (tgt := 41) hx hb (by omega) (by omega) dX3_sealTold_29 (by decide) (fun c9 => ?_) (fun c9 => ?_)
        · skip
          refine lv_aload_n hx hb dX3_sealTold_41 rfl (lv_at hl 0 rfl) ?_
          refine va_get (D := G) (ci := 3) (v := .ref (ad 6)) (C := RX3) (T := TX3) (N := 11) hx hb hts hiX3 hown hN.1 (mE_P1 hE (S_4f rfl hm1 hm2 rfl)) 0 rfl rfl 4 (by decide) (hts (.fieldLink RX3 13 "SealedCupboardsModel" "changes" "[I") (by decide +kernel)) (fun _ h9 => h9) rfl dX3_sealTold_42 ?_
          refine lv_aload_n hx hb dX3_sealTold_45 rfl (lv_at hl 0 rfl) ?_
          refine va_get (D := G) (ci := 3) (v := .ref (ad 7)) (C := RX3) (T := TX3) (N := 11) hx hb hts hiX3 hown hN.1 (mE_P1 hE (S_4f rfl hm1 hm2 rfl)) 0 rfl rfl 5 (by decide) (hts (.fieldLink RX3 16 "SealedCupboardsModel" "sealed" "[I") (by decide +kernel)) (fun _ h9 => h9) rfl dX3_sealTold_46 ?_
          refine lv_iload_n hx hb dX3_sealTold_49 rfl (lv_at hl 1 rfl) ?_
          refine mx_iald hx hb hN hE (S_7e h7) (j := j) rfl (by omega) (by decide) dX3_sealTold_50 ?_
          rw [hsc]
          refine mx_iald hx hb hN hE (S_6e h6) (j := cu) rfl (by omega) (by decide) dX3_sealTold_51 ?_
          refine lv_aload_n hx hb dX3_sealTold_52 rfl (lv_at hl 0 rfl) ?_
          refine va_get (D := G) (ci := 3) (v := .ref (ad 9)) (C := RX3) (T := TX3) (N := 11) hx hb hts hiX3 hown hN.1 (mE_P1 hE (S_4f rfl hm1 hm2 rfl)) 0 rfl rfl 7 (by decide) (hts (.fieldLink RX3 22 "SealedCupboardsModel" "then" "[I") (by decide +kernel)) (fun _ h9 => h9) rfl dX3_sealTold_53 ?_
          refine lv_iload_n hx hb dX3_sealTold_56 rfl (lv_at hl 1 rfl) ?_
          refine mx_iald hx hb hN hE (S_9e h9) (j := j) rfl (by omega) (by decide) dX3_sealTold_57 ?_
          refine mv_isub (z := (b 6 cu) - (b 9 j)) hx hb rfl dX3_sealTold_58 ?_
          exact mx_iret hx hb hr hE hlocks ⟨by simp only [mAbout, mVw_2, mVw_c (show cu < 100 by omega)], rfl⟩ dX3_sealTold_59
        · skip
          exfalso; omega
      · skip
        exfalso; omega
    · skip
      have c7 := (mz_eq (by omega)).mp c7
      exfalso; omega

set_option maxHeartbeats 4000000 in
set_option maxRecDepth 100000 in
/-- toldOf -/
theorem c_X3_toldOf (l : Launch) (G : va_G) (cy : Nat → ClassId) (ad : Nat → Nat) (cn ck n k : Nat) (v : Nat → Nat → Int32) (o : Nat → Int64) (hn : n ≤ 6) (hk : k ≤ 20) (sz : Nat) (hm1 : v 4 1 = nI n) (hm2 : v 4 2 = nI k) (i t9 : Nat) (h_i : i < n) (ht9 : t9 < 6) {b : Nat → Nat → Int32} (h5 : v 5 = b 5) (h6 : v 6 = b 6) (h7 : v 7 = b 7) (h8 : v 8 = b 8) : mMi l yX3_toldOf wsX3_toldOf ({ frames := 10, cells := 0, slots := 0, locals := 220 }) G cy ad (Sy cy ad cn ck v o) sz [.ref (ad 4), .int (nI i), .int (nI t9)] 0 0 (fun (r : Int32) u => r = mTold (mVw b) k i t9 ∧ ∃ v' : Nat → Nat → Int32, u = (ad, Sy cy ad cn ck v' o) ∧ mQT v v' (v 4 0)) := by
  refine Met.ofW (cc := cX3_toldOf) (maxL := 6) (ret := (some .int)) (by decide) rfl ?_
  intro p e s m args below meth c s₁ B hml hv
  obtain ⟨rfl, hv⟩ := hv
  have hsz := hv.1
  subst hsz
  have hN := hv.2.2
  have hE := mP_E hv
  have hx := B.exec
  have hb := B.bytes
  have hr := B.returns
  have hts := atoms_spec (ws := wsX3_toldOf) B.pre
  have hown : s.vm.findClass RX3 = some m.cls := findClass_of_methodNamed B.named
  have hlocks := B.notSynchronized
  have hiX3 : ∀ w ∈ wsX30, w ∈ wsX3_toldOf := by decide +kernel
  have hl := lv_entry ([.ref (ad 4), .int (nI i), .int (nI t9)]) (n := 6) (Nat.le_of_ble_eq_true rfl)
  rw [lg_entry_eq]
  generalize (lg_sl ([.ref (ad 4), .int (nI i), .int (nI t9)]) ++ List.replicate (6 - (lg_sl ([.ref (ad 4), .int (nI i), .int (nI t9)])).length) Slot.unset).toArray = ls at hl ⊢
  have hl : lv_has ls 6 [(0, .ref (ad 4)), (1, .int (nI i)), (2, .int (nI t9))] := hl
  refine lv_iconst (v := nI 0) hx hb dX3_toldOf_0 (by decide) ?_
  refine lv_istore_n (lv' := [(3, .int (nI 0)), (0, .ref (ad 4)), (1, .int (nI i)), (2, .int (nI t9))]) hx hb dX3_toldOf_1 rfl hl (by decide) rfl (fun ls hl => ?_)
  refine lv_iload_n hx hb dX3_toldOf_2 rfl (lv_at hl 3 rfl) ?_
  rcases (show t9 = 0 ∨ t9 = 1 ∨ t9 = 2 ∨ t9 = 3 ∨ t9 = 4 ∨ t9 = 5 by omega) with rfl | rfl | rfl | rfl | rfl | rfl
  · skip
    have hl : lv_has ls 6 [(3, .int (nI 0)), (0, .ref (ad 4)), (1, .int (nI i)), (2, .int (nI 0))] := hl
    refine lv_tableIn (off := 33) (tgt := 36) hx hb dX3_toldOf_3 (by decide) (by decide) rfl (by decide) ?_
    refine lv_aload_n hx hb dX3_toldOf_36 rfl (lv_at hl 1 rfl) ?_
    refine lv_iload_n hx hb dX3_toldOf_37 rfl (lv_at hl 2 rfl) ?_
    refine va_calli (va_runV (As := [.int (nI i)]) (rest := []) ⟨hx, hb, hml, hown, hts⟩ (c_X3_root l G cy ad cn ck n k v o hn hk _ hm1 hm2 i h_i h5) (cwV 1 hts gX3_toldOf_X3_root rfl rfl rfl (by decide +kernel) ⟨Nat.le_of_ble_eq_true rfl, Nat.le_of_ble_eq_true rfl⟩) (mP_V (r := (RX3, TX3, 11)) hN hE (S_4f rfl hm1 hm2 rfl) rfl) rfl rfl hl.1 rfl (lv_room (Nat.le_of_ble_eq_true rfl)) dX3_toldOf_38 ⟨Nat.le_of_ble_eq_true rfl, Nat.le_of_ble_eq_true rfl⟩) hE.2.2.2 (fun q _ h => mE_A hE q h) (mE_A hE) (fun r uq tq H locs ht hvm hw hB hz1 hk1 hS => ?_)
    obtain ⟨rfl, kv1, rfl, kq2⟩ := hw
    have hE : mE G (mA ad (Sy cy ad cn ck v o) s.heap.size) s.heap ad (Sy cy ad cn ck kv1 o) H locs := mE_call hE hB ht hS
    have ke3 : kv1 5 = b 5 := (kq2.1 5 (by decide) (by decide) (by decide)).trans h5
    have ke4 : kv1 6 = b 6 := (kq2.1 6 (by decide) (by decide) (by decide)).trans h6
    have ke5 : kv1 7 = b 7 := (kq2.1 7 (by decide) (by decide) (by decide)).trans h7
    have ke6 : kv1 8 = b 8 := (kq2.1 8 (by decide) (by decide) (by decide)).trans h8
    have kf7 : kv1 4 0 = v 4 0 := kq2.2.1
    have kf8 : kv1 4 1 = nI n := (kq2.2.2.1).trans hm1
    have kf9 : kv1 4 2 = nI k := (kq2.2.2.2).trans hm2
    exact mx_iret hx hb hr hE hlocks ⟨(mVw_s (by omega)).symm, ⟨kv1, rfl, fun w h4 h10 h11 => (kq2.1 w h4 h10 h11), kf7, (kf8.trans hm1.symm), (kf9.trans hm2.symm)⟩⟩ dX3_toldOf_41
  · skip
    have hl : lv_has ls 6 [(3, .int (nI 0)), (0, .ref (ad 4)), (1, .int (nI i)), (2, .int (nI 1))] := hl
    refine lv_tableIn (off := 39) (tgt := 42) hx hb dX3_toldOf_3 (by decide) (by decide) rfl (by decide) ?_
    refine lv_aload_n hx hb dX3_toldOf_42 rfl (lv_at hl 1 rfl) ?_
    refine va_get (D := G) (ci := 3) (v := .ref (ad 6)) (C := RX3) (T := TX3) (N := 11) hx hb hts hiX3 hown hN.1 (mE_P1 hE (S_4f rfl hm1 hm2 rfl)) 0 rfl rfl 4 (by decide) (hts (.fieldLink RX3 13 "SealedCupboardsModel" "changes" "[I") (by decide +kernel)) (fun _ h9 => h9) rfl dX3_toldOf_43 ?_
    refine lv_iload_n hx hb dX3_toldOf_46 rfl (lv_at hl 2 rfl) ?_
    refine mx_iald hx hb hN hE (S_6e h6) (j := i) rfl (by omega) (by decide) dX3_toldOf_47 ?_
    exact mx_iret hx hb hr hE hlocks ⟨(mVw_c (show i < 100 by omega)).symm, ⟨v, rfl, fun w h4 h10 h11 => rfl, rfl, rfl, rfl⟩⟩ dX3_toldOf_48
  · skip
    have hl : lv_has ls 6 [(3, .int (nI 0)), (0, .ref (ad 4)), (1, .int (nI i)), (2, .int (nI 2))] := hl
    refine lv_tableIn (off := 46) (tgt := 49) hx hb dX3_toldOf_3 (by decide) (by decide) rfl (by decide) ?_
    refine lv_iconst (v := nI 0) hx hb dX3_toldOf_49 (by decide) ?_
    refine lv_istore (lv' := [(4, .int (nI 0)), (3, .int (nI 0)), (0, .ref (ad 4)), (1, .int (nI i)), (2, .int (nI 2))]) hx hb dX3_toldOf_50 hl (by decide) rfl (fun ls hl => ?_)
    refine mx_loop (β := Nat) (fun n9 (d : Nat) H locs ls => n9 = 16 - d ∧ (d ≤ 16) ∧ mE G (mA ad (Sy cy ad cn ck v o) s.heap.size) s.heap ad (Sy cy ad cn ck v o) H locs ∧ lv_has ls 6 [(4, .int (nI d)), (3, .int (nI (mFill (mVw b (200 + i)) d))), (0, .ref (ad 4)), (1, .int (nI i)), (2, .int (nI 2))]) ?_ (16 - 0) (0) _ _ _ ⟨rfl, (by omega), hE, lv_sub hl [0, 1, 2, 3, 4] rfl⟩
    intro n9 d H locs ls hI ih10
    obtain ⟨hn11, hle, hE, hl⟩ := hI
    have hbd := mFill_le (mVw b (200 + i)) d
    have hE : mE G (mA ad (Sy cy ad cn ck v o) s.heap.size) s.heap ad (Sy cy ad cn ck v o) H locs := hE
    have hl : lv_has ls 6 [(4, .int (nI d)), (3, .int (nI (mFill (mVw b (200 + i)) d))), (0, .ref (ad 4)), (1, .int (nI i)), (2, .int (nI 2))] := hl
    refine lv_iload hx hb dX3_toldOf_52 (lv_at hl 0 rfl) ?_
    refine lv_bipush (v := nI 16) hx hb dX3_toldOf_54 (by decide) ?_
    refine mv_ge (tgt := 83) hx hb (by omega) (by omega) dX3_toldOf_56 (by decide) (fun c12 => ?_) (fun c12 => ?_)
    · skip
      refine lv_iload_n hx hb dX3_toldOf_83 rfl (lv_at hl 1 rfl) ?_
      exact mx_iret hx hb hr hE hlocks ⟨by rw [show d = 16 by omega]; rfl, ⟨v, rfl, fun w h4 h10 h11 => rfl, rfl, rfl, rfl⟩⟩ dX3_toldOf_84
    · skip
      refine lv_iload_n hx hb dX3_toldOf_59 rfl (lv_at hl 1 rfl) ?_
      refine lv_aload_n hx hb dX3_toldOf_60 rfl (lv_at hl 2 rfl) ?_
      refine lv_iload_n hx hb dX3_toldOf_61 rfl (lv_at hl 3 rfl) ?_
      refine lv_iload hx hb dX3_toldOf_62 (lv_at hl 0 rfl) ?_
      refine va_calli (va_runV (As := [.int (nI i), .int (nI d)]) (rest := [.int (nI (mFill (mVw b (200 + i)) d))]) ⟨hx, hb, hml, hown, hts⟩ (c_X3_th l G cy ad cn ck n k v o hn hk _ hm1 hm2 i d h_i (by omega) h5) (cwV 2 hts gX3_toldOf_X3_th rfl rfl rfl (by decide +kernel) ⟨Nat.le_of_ble_eq_true rfl, Nat.le_of_ble_eq_true rfl⟩) (mP_V (r := (RX3, TX3, 11)) hN hE (S_4f rfl hm1 hm2 rfl) rfl) rfl rfl hl.1 rfl (lv_room (Nat.le_of_ble_eq_true rfl)) dX3_toldOf_64 ⟨Nat.le_of_ble_eq_true rfl, Nat.le_of_ble_eq_true rfl⟩) hE.2.2.2 (fun q _ h => mE_A hE q h) (mE_A hE) (fun r uq tq H locs ht hvm hw hB hz1 hk1 hS => ?_)
      obtain ⟨rfl, rfl⟩ := hw
      have hE : mE G (mA ad (Sy cy ad cn ck v o) s.heap.size) s.heap ad (Sy cy ad cn ck v o) H locs := mE_call hE hB ht hS
      refine lv_if_ne (tgt := 74) hx hb dX3_toldOf_67 (by decide) (fun c13 => ?_) (fun c13 => ?_)
      · skip
        refine lv_iconst (v := nI 1) hx hb dX3_toldOf_74 (by decide) ?_
        refine mv_iadd (z := nI ((mFill (mVw b (200 + i)) d) + 1)) hx hb (nI_add _ _) dX3_toldOf_75 ?_
        refine lv_istore_n (lv' := [(3, .int (nI ((mFill (mVw b (200 + i)) d) + 1))), (4, .int (nI d)), (0, .ref (ad 4)), (1, .int (nI i)), (2, .int (nI 2))]) hx hb dX3_toldOf_76 rfl hl (by decide) rfl (fun ls hl => ?_)
        have e9 : mFill (mVw b (200 + i)) d + 1 = mFill (mVw b (200 + i)) (d + 1) := by simp only [mFill]; rw [if_neg (by rw [mVw_t (show i < 100 by omega)]; exact c13)]
        rw [e9] at hl
        refine lv_iinc (v := nI (d + 1)) (lv' := [(4, .int (nI (d + 1))), (3, .int (nI (mFill (mVw b (200 + i)) (d + 1)))), (0, .ref (ad 4)), (1, .int (nI i)), (2, .int (nI 2))]) hx hb dX3_toldOf_77 hl (k := 1) rfl (nI_add _ _) (by decide) rfl (fun ls hl => ?_)
        refine lv_goto (tgt := 52) hx hb dX3_toldOf_80 (by decide) ?_
        exact ih10 (16 - (d + 1)) (d + 1) _ _ _ (by rw [hn11]; omega) ⟨rfl, (by omega), hE, lv_sub hl [0, 1, 2, 3, 4] rfl⟩
      · skip
        refine lv_iconst (v := nI 0) hx hb dX3_toldOf_70 (by decide) ?_
        refine lv_goto (tgt := 75) hx hb dX3_toldOf_71 (by decide) ?_
        refine mv_iadd (z := nI ((mFill (mVw b (200 + i)) d) + 0)) hx hb (nI_add _ _) dX3_toldOf_75 ?_
        refine lv_istore_n (lv' := [(3, .int (nI ((mFill (mVw b (200 + i)) d) + 0))), (4, .int (nI d)), (0, .ref (ad 4)), (1, .int (nI i)), (2, .int (nI 2))]) hx hb dX3_toldOf_76 rfl hl (by decide) rfl (fun ls hl => ?_)
        have e9 : mFill (mVw b (200 + i)) d + 0 = mFill (mVw b (200 + i)) (d + 1) := by simp only [mFill]; rw [if_pos (by rw [mVw_t (show i < 100 by omega)]; exact c13)]
        rw [e9] at hl
        refine lv_iinc (v := nI (d + 1)) (lv' := [(4, .int (nI (d + 1))), (3, .int (nI (mFill (mVw b (200 + i)) (d + 1)))), (0, .ref (ad 4)), (1, .int (nI i)), (2, .int (nI 2))]) hx hb dX3_toldOf_77 hl (k := 1) rfl (nI_add _ _) (by decide) rfl (fun ls hl => ?_)
        refine lv_goto (tgt := 52) hx hb dX3_toldOf_80 (by decide) ?_
        exact ih10 (16 - (d + 1)) (d + 1) _ _ _ (by rw [hn11]; omega) ⟨rfl, (by omega), hE, lv_sub hl [0, 1, 2, 3, 4] rfl⟩
  · skip
    have hl : lv_has ls 6 [(3, .int (nI 0)), (0, .ref (ad 4)), (1, .int (nI i)), (2, .int (nI 3))] := hl
    refine lv_tableIn (off := 82) (tgt := 85) hx hb dX3_toldOf_3 (by decide) (by decide) rfl (by decide) ?_
    refine lv_iconst (v := nI 0) hx hb dX3_toldOf_85 (by decide) ?_
    refine lv_istore (lv' := [(4, .int (nI 0)), (3, .int (nI 0)), (0, .ref (ad 4)), (1, .int (nI i)), (2, .int (nI 3))]) hx hb dX3_toldOf_86 hl (by decide) rfl (fun ls hl => ?_)
    refine mx_loop (β := Nat) (fun n9 (d : Nat) H locs ls => n9 = 16 - d ∧ (d ≤ 16) ∧ mE G (mA ad (Sy cy ad cn ck v o) s.heap.size) s.heap ad (Sy cy ad cn ck v o) H locs ∧ lv_has ls 6 [(4, .int (nI d)), (3, .int (mAdd (mVw b (200 + i)) d)), (0, .ref (ad 4)), (1, .int (nI i)), (2, .int (nI 3))]) ?_ (16 - 0) (0) _ _ _ ⟨rfl, (by omega), hE, lv_sub hl [0, 1, 2, 3, 4] rfl⟩
    intro n9 d H locs ls hI ih14
    obtain ⟨hn15, hle, hE, hl⟩ := hI
    have hE : mE G (mA ad (Sy cy ad cn ck v o) s.heap.size) s.heap ad (Sy cy ad cn ck v o) H locs := hE
    have hl : lv_has ls 6 [(4, .int (nI d)), (3, .int (mAdd (mVw b (200 + i)) d)), (0, .ref (ad 4)), (1, .int (nI i)), (2, .int (nI 3))] := hl
    refine lv_iload hx hb dX3_toldOf_88 (lv_at hl 0 rfl) ?_
    refine lv_bipush (v := nI 16) hx hb dX3_toldOf_90 (by decide) ?_
    refine mv_ge (tgt := 111) hx hb (by omega) (by omega) dX3_toldOf_92 (by decide) (fun c16 => ?_) (fun c16 => ?_)
    · skip
      refine lv_iload_n hx hb dX3_toldOf_111 rfl (lv_at hl 1 rfl) ?_
      exact mx_iret hx hb hr hE hlocks ⟨by rw [show d = 16 by omega]; rfl, ⟨v, rfl, fun w h4 h10 h11 => rfl, rfl, rfl, rfl⟩⟩ dX3_toldOf_112
    · skip
      refine lv_iload_n hx hb dX3_toldOf_95 rfl (lv_at hl 1 rfl) ?_
      refine lv_aload_n hx hb dX3_toldOf_96 rfl (lv_at hl 2 rfl) ?_
      refine lv_iload_n hx hb dX3_toldOf_97 rfl (lv_at hl 3 rfl) ?_
      refine lv_iload hx hb dX3_toldOf_98 (lv_at hl 0 rfl) ?_
      refine va_calli (va_runV (As := [.int (nI i), .int (nI d)]) (rest := [.int (mAdd (mVw b (200 + i)) d)]) ⟨hx, hb, hml, hown, hts⟩ (c_X3_th l G cy ad cn ck n k v o hn hk _ hm1 hm2 i d h_i (by omega) h5) (cwV 2 hts gX3_toldOf_X3_th rfl rfl rfl (by decide +kernel) ⟨Nat.le_of_ble_eq_true rfl, Nat.le_of_ble_eq_true rfl⟩) (mP_V (r := (RX3, TX3, 11)) hN hE (S_4f rfl hm1 hm2 rfl) rfl) rfl rfl hl.1 rfl (lv_room (Nat.le_of_ble_eq_true rfl)) dX3_toldOf_100 ⟨Nat.le_of_ble_eq_true rfl, Nat.le_of_ble_eq_true rfl⟩) hE.2.2.2 (fun q _ h => mE_A hE q h) (mE_A hE) (fun r uq tq H locs ht hvm hw hB hz1 hk1 hS => ?_)
      obtain ⟨rfl, rfl⟩ := hw
      have hE : mE G (mA ad (Sy cy ad cn ck v o) s.heap.size) s.heap ad (Sy cy ad cn ck v o) H locs := mE_call hE hB ht hS
      refine mv_iadd (z := (mAdd (mVw b (200 + i)) d) + ((b 5) (16 * i + d))) hx hb rfl dX3_toldOf_103 ?_
      refine lv_istore_n (lv' := [(3, .int ((mAdd (mVw b (200 + i)) d) + ((b 5) (16 * i + d)))), (4, .int (nI d)), (0, .ref (ad 4)), (1, .int (nI i)), (2, .int (nI 3))]) hx hb dX3_toldOf_104 rfl hl (by decide) rfl (fun ls hl => ?_)
      have e9 : mAdd (mVw b (200 + i)) d + b 5 (16 * i + d) = mAdd (mVw b (200 + i)) (d + 1) := by simp only [mAdd]; rw [mVw_t (show i < 100 by omega)]
      rw [e9] at hl
      refine lv_iinc (v := nI (d + 1)) (lv' := [(4, .int (nI (d + 1))), (3, .int (mAdd (mVw b (200 + i)) (d + 1))), (0, .ref (ad 4)), (1, .int (nI i)), (2, .int (nI 3))]) hx hb dX3_toldOf_105 hl (k := 1) rfl (nI_add _ _) (by decide) rfl (fun ls hl => ?_)
      refine lv_goto (tgt := 88) hx hb dX3_toldOf_108 (by decide) ?_
      exact ih14 (16 - (d + 1)) (d + 1) _ _ _ (by rw [hn15]; omega) ⟨rfl, (by omega), hE, lv_sub hl [0, 1, 2, 3, 4] rfl⟩
  · skip
    have hl : lv_has ls 6 [(3, .int (nI 0)), (0, .ref (ad 4)), (1, .int (nI i)), (2, .int (nI 4))] := hl
    refine lv_tableIn (off := 110) (tgt := 113) hx hb dX3_toldOf_3 (by decide) (by decide) rfl (by decide) ?_
    refine lv_iconst (v := nI 0) hx hb dX3_toldOf_113 (by decide) ?_
    refine lv_istore (lv' := [(4, .int (nI 0)), (3, .int (nI 0)), (0, .ref (ad 4)), (1, .int (nI i)), (2, .int (nI 4))]) hx hb dX3_toldOf_114 hl (by decide) rfl (fun ls hl => ?_)
    refine mx_loop (β := Nat) (fun n9 (j : Nat) H locs ls => n9 = k - j ∧ (j ≤ k) ∧ mE G (mA ad (Sy cy ad cn ck v o) s.heap.size) s.heap ad (Sy cy ad cn ck v o) H locs ∧ lv_has ls 6 [(4, .int (nI j)), (3, .int (nI (mSof (mVw b) (nI i) j))), (0, .ref (ad 4)), (1, .int (nI i)), (2, .int (nI 4))]) ?_ (k - 0) (0) _ _ _ ⟨rfl, (by omega), hE, lv_sub hl [0, 1, 2, 3, 4] rfl⟩
    intro n9 j H locs ls hI ih17
    obtain ⟨hn18, hle, hE, hl⟩ := hI
    have hbd := mSof_le (mVw b) (nI i) j
    have hE : mE G (mA ad (Sy cy ad cn ck v o) s.heap.size) s.heap ad (Sy cy ad cn ck v o) H locs := hE
    have hl : lv_has ls 6 [(4, .int (nI j)), (3, .int (nI (mSof (mVw b) (nI i) j))), (0, .ref (ad 4)), (1, .int (nI i)), (2, .int (nI 4))] := hl
    refine lv_iload hx hb dX3_toldOf_116 (lv_at hl 0 rfl) ?_
    refine lv_aload_n hx hb dX3_toldOf_118 rfl (lv_at hl 2 rfl) ?_
    refine va_get (D := G) (ci := 3) (v := .int (nI k)) (C := RX3) (T := TX3) (N := 11) hx hb hts hiX3 hown hN.1 (mE_P1 hE (S_4f rfl hm1 hm2 rfl)) 0 rfl rfl 2 (by decide) (hts (.fieldLink RX3 42 "SealedCupboardsModel" "seals" "I") (by decide +kernel)) (fun _ h9 => h9) rfl dX3_toldOf_119 ?_
    refine mv_ge (tgt := 150) hx hb (by omega) (by omega) dX3_toldOf_122 (by decide) (fun c19 => ?_) (fun c19 => ?_)
    · skip
      refine lv_iload_n hx hb dX3_toldOf_150 rfl (lv_at hl 1 rfl) ?_
      exact mx_iret hx hb hr hE hlocks ⟨by rw [show j = k by omega]; rfl, ⟨v, rfl, fun w h4 h10 h11 => rfl, rfl, rfl, rfl⟩⟩ dX3_toldOf_151
    · skip
      have h_j : j < k := c19
      refine lv_iload_n hx hb dX3_toldOf_125 rfl (lv_at hl 1 rfl) ?_
      refine lv_aload_n hx hb dX3_toldOf_126 rfl (lv_at hl 2 rfl) ?_
      refine va_get (D := G) (ci := 3) (v := .ref (ad 7)) (C := RX3) (T := TX3) (N := 11) hx hb hts hiX3 hown hN.1 (mE_P1 hE (S_4f rfl hm1 hm2 rfl)) 0 rfl rfl 5 (by decide) (hts (.fieldLink RX3 16 "SealedCupboardsModel" "sealed" "[I") (by decide +kernel)) (fun _ h9 => h9) rfl dX3_toldOf_127 ?_
      refine lv_iload hx hb dX3_toldOf_130 (lv_at hl 0 rfl) ?_
      refine mx_iald hx hb hN hE (S_7e h7) (j := j) rfl (by omega) (by decide) dX3_toldOf_132 ?_
      refine lv_iload_n hx hb dX3_toldOf_133 rfl (lv_at hl 3 rfl) ?_
      refine lv_icmp_ne (tgt := 141) hx hb dX3_toldOf_134 (by decide) (fun c20 => ?_) (fun c20 => ?_)
      · skip
        refine lv_iconst (v := nI 0) hx hb dX3_toldOf_141 (by decide) ?_
        refine mv_iadd (z := nI ((mSof (mVw b) (nI i) j) + 0)) hx hb (nI_add _ _) dX3_toldOf_142 ?_
        refine lv_istore_n (lv' := [(3, .int (nI ((mSof (mVw b) (nI i) j) + 0))), (4, .int (nI j)), (0, .ref (ad 4)), (1, .int (nI i)), (2, .int (nI 4))]) hx hb dX3_toldOf_143 rfl hl (by decide) rfl (fun ls hl => ?_)
        have e9 : mSof (mVw b) (nI i) j + 0 = mSof (mVw b) (nI i) (j + 1) := by simp only [mSof]; rw [if_neg (by rw [mVw_0]; exact c20)]
        rw [e9] at hl
        refine lv_iinc (v := nI (j + 1)) (lv' := [(4, .int (nI (j + 1))), (3, .int (nI (mSof (mVw b) (nI i) (j + 1)))), (0, .ref (ad 4)), (1, .int (nI i)), (2, .int (nI 4))]) hx hb dX3_toldOf_144 hl (k := 1) rfl (nI_add _ _) (by decide) rfl (fun ls hl => ?_)
        refine lv_goto (tgt := 116) hx hb dX3_toldOf_147 (by decide) ?_
        exact ih17 (k - (j + 1)) (j + 1) _ _ _ (by rw [hn18]; omega) ⟨rfl, (by omega), hE, lv_sub hl [0, 1, 2, 3, 4] rfl⟩
      · skip
        refine lv_iconst (v := nI 1) hx hb dX3_toldOf_137 (by decide) ?_
        refine lv_goto (tgt := 142) hx hb dX3_toldOf_138 (by decide) ?_
        refine mv_iadd (z := nI ((mSof (mVw b) (nI i) j) + 1)) hx hb (nI_add _ _) dX3_toldOf_142 ?_
        refine lv_istore_n (lv' := [(3, .int (nI ((mSof (mVw b) (nI i) j) + 1))), (4, .int (nI j)), (0, .ref (ad 4)), (1, .int (nI i)), (2, .int (nI 4))]) hx hb dX3_toldOf_143 rfl hl (by decide) rfl (fun ls hl => ?_)
        have e9 : mSof (mVw b) (nI i) j + 1 = mSof (mVw b) (nI i) (j + 1) := by simp only [mSof]; rw [if_pos (by rw [mVw_0]; exact c20)]
        rw [e9] at hl
        refine lv_iinc (v := nI (j + 1)) (lv' := [(4, .int (nI (j + 1))), (3, .int (nI (mSof (mVw b) (nI i) (j + 1)))), (0, .ref (ad 4)), (1, .int (nI i)), (2, .int (nI 4))]) hx hb dX3_toldOf_144 hl (k := 1) rfl (nI_add _ _) (by decide) rfl (fun ls hl => ?_)
        refine lv_goto (tgt := 116) hx hb dX3_toldOf_147 (by decide) ?_
        exact ih17 (k - (j + 1)) (j + 1) _ _ _ (by rw [hn18]; omega) ⟨rfl, (by omega), hE, lv_sub hl [0, 1, 2, 3, 4] rfl⟩
  · skip
    have hl : lv_has ls 6 [(3, .int (nI 0)), (0, .ref (ad 4)), (1, .int (nI i)), (2, .int (nI 5))] := hl
    refine lv_tableOut (tgt := 152) hx hb dX3_toldOf_3 (Or.inr (by decide)) (by decide) ?_
    refine lv_aload_n hx hb dX3_toldOf_152 rfl (lv_at hl 1 rfl) ?_
    refine lv_iload_n hx hb dX3_toldOf_153 rfl (lv_at hl 2 rfl) ?_
    refine va_calli (va_runV (As := [.int (nI i)]) (rest := []) ⟨hx, hb, hml, hown, hts⟩ (c_X3_root l G cy ad cn ck n k v o hn hk _ hm1 hm2 i h_i h5) (cwV 1 hts gX3_toldOf_X3_root rfl rfl rfl (by decide +kernel) ⟨Nat.le_of_ble_eq_true rfl, Nat.le_of_ble_eq_true rfl⟩) (mP_V (r := (RX3, TX3, 11)) hN hE (S_4f rfl hm1 hm2 rfl) rfl) rfl rfl hl.1 rfl (lv_room (Nat.le_of_ble_eq_true rfl)) dX3_toldOf_154 ⟨Nat.le_of_ble_eq_true rfl, Nat.le_of_ble_eq_true rfl⟩) hE.2.2.2 (fun q _ h => mE_A hE q h) (mE_A hE) (fun r uq tq H locs ht hvm hw hB hz1 hk1 hS => ?_)
    obtain ⟨rfl, kv21, rfl, kq22⟩ := hw
    have hE : mE G (mA ad (Sy cy ad cn ck v o) s.heap.size) s.heap ad (Sy cy ad cn ck kv21 o) H locs := mE_call hE hB ht hS
    have ke23 : kv21 5 = b 5 := (kq22.1 5 (by decide) (by decide) (by decide)).trans h5
    have ke24 : kv21 6 = b 6 := (kq22.1 6 (by decide) (by decide) (by decide)).trans h6
    have ke25 : kv21 7 = b 7 := (kq22.1 7 (by decide) (by decide) (by decide)).trans h7
    have ke26 : kv21 8 = b 8 := (kq22.1 8 (by decide) (by decide) (by decide)).trans h8
    have kf27 : kv21 4 0 = v 4 0 := kq22.2.1
    have kf28 : kv21 4 1 = nI n := (kq22.2.2.1).trans hm1
    have kf29 : kv21 4 2 = nI k := (kq22.2.2.2).trans hm2
    rw [show mS (fun d => (b 5) (16 * i + d)) 1 = mVw b (300 + i) 1 from (mVw_s (by omega)).symm]
    refine lv_istore (lv' := [(4, .int (mVw b (300 + i) 1)), (3, .int (nI 0)), (0, .ref (ad 4)), (1, .int (nI i)), (2, .int (nI 5))]) hx hb dX3_toldOf_157 hl (by decide) rfl (fun ls hl => ?_)
    refine lv_iconst (v := nI 0) hx hb dX3_toldOf_159 (by decide) ?_
    refine lv_istore (lv' := [(5, .int (nI 0)), (4, .int (mVw b (300 + i) 1)), (3, .int (nI 0)), (0, .ref (ad 4)), (1, .int (nI i)), (2, .int (nI 5))]) hx hb dX3_toldOf_160 hl (by decide) rfl (fun ls hl => ?_)
    refine mx_loop (β := Nat) (fun n9 (j : Nat) H locs ls => n9 = k - j ∧ (j ≤ k) ∧ mE G (mA ad (Sy cy ad cn ck v o) s.heap.size) s.heap ad (Sy cy ad cn ck kv21 o) H locs ∧ lv_has ls 6 [(5, .int (nI j)), (3, .int (nI (mSkp (mVw b) (nI i) (mVw b (300 + i) 1) j))), (0, .ref (ad 4)), (1, .int (nI i)), (2, .int (nI 5)), (4, .int (mVw b (300 + i) 1))]) ?_ (k - 0) (0) _ _ _ ⟨rfl, (by omega), hE, lv_sub hl [0, 2, 3, 4, 5, 1] rfl⟩
    intro n9 j H locs ls hI ih30
    obtain ⟨hn31, hle, hE, hl⟩ := hI
    have hbd := mSkp_le (mVw b) (nI i) (mVw b (300 + i) 1) j
    have hE : mE G (mA ad (Sy cy ad cn ck v o) s.heap.size) s.heap ad (Sy cy ad cn ck kv21 o) H locs := hE
    have hl : lv_has ls 6 [(5, .int (nI j)), (3, .int (nI (mSkp (mVw b) (nI i) (mVw b (300 + i) 1) j))), (0, .ref (ad 4)), (1, .int (nI i)), (2, .int (nI 5)), (4, .int (mVw b (300 + i) 1))] := hl
    refine lv_iload hx hb dX3_toldOf_162 (lv_at hl 0 rfl) ?_
    refine lv_aload_n hx hb dX3_toldOf_164 rfl (lv_at hl 2 rfl) ?_
    refine va_get (D := G) (ci := 3) (v := .int (nI k)) (C := RX3) (T := TX3) (N := 11) hx hb hts hiX3 hown hN.1 (mE_P1 hE (S_4f kf27 kf28 kf29 rfl)) 0 rfl rfl 2 (by decide) (hts (.fieldLink RX3 42 "SealedCupboardsModel" "seals" "I") (by decide +kernel)) (fun _ h9 => h9) rfl dX3_toldOf_165 ?_
    refine mv_ge (tgt := 208) hx hb (by omega) (by omega) dX3_toldOf_168 (by decide) (fun c32 => ?_) (fun c32 => ?_)
    · skip
      refine lv_iload_n hx hb dX3_toldOf_208 rfl (lv_at hl 1 rfl) ?_
      exact mx_iret hx hb hr hE hlocks ⟨by rw [show j = k by omega]; rfl, ⟨kv21, rfl, fun w h4 h10 h11 => (kq22.1 w h4 h10 h11), kf27, (kf28.trans hm1.symm), (kf29.trans hm2.symm)⟩⟩ dX3_toldOf_209
    · skip
      have h_j : j < k := c32
      refine lv_iload_n hx hb dX3_toldOf_171 rfl (lv_at hl 1 rfl) ?_
      refine lv_aload_n hx hb dX3_toldOf_172 rfl (lv_at hl 2 rfl) ?_
      refine va_get (D := G) (ci := 3) (v := .ref (ad 7)) (C := RX3) (T := TX3) (N := 11) hx hb hts hiX3 hown hN.1 (mE_P1 hE (S_4f kf27 kf28 kf29 rfl)) 0 rfl rfl 5 (by decide) (hts (.fieldLink RX3 16 "SealedCupboardsModel" "sealed" "[I") (by decide +kernel)) (fun _ h9 => h9) rfl dX3_toldOf_173 ?_
      refine lv_iload hx hb dX3_toldOf_176 (lv_at hl 0 rfl) ?_
      refine mx_iald hx hb hN hE (S_7e ke25) (j := j) rfl (by omega) (by decide) dX3_toldOf_178 ?_
      refine lv_iload_n hx hb dX3_toldOf_179 rfl (lv_at hl 3 rfl) ?_
      refine lv_icmp_ne (tgt := 199) hx hb dX3_toldOf_180 (by decide) (fun c33 => ?_) (fun c33 => ?_)
      · skip
        refine lv_iconst (v := nI 0) hx hb dX3_toldOf_199 (by decide) ?_
        refine mv_iadd (z := nI ((mSkp (mVw b) (nI i) (mVw b (300 + i) 1) j) + 0)) hx hb (nI_add _ _) dX3_toldOf_200 ?_
        refine lv_istore_n (lv' := [(3, .int (nI ((mSkp (mVw b) (nI i) (mVw b (300 + i) 1) j) + 0))), (5, .int (nI j)), (0, .ref (ad 4)), (1, .int (nI i)), (2, .int (nI 5)), (4, .int (mVw b (300 + i) 1))]) hx hb dX3_toldOf_201 rfl hl (by decide) rfl (fun ls hl => ?_)
        have e9 : mSkp (mVw b) (nI i) (mVw b (300 + i) 1) j + 0 = mSkp (mVw b) (nI i) (mVw b (300 + i) 1) (j + 1) := by simp only [mSkp]; rw [if_neg (by rw [mVw_0, mVw_1]; exact fun h9 => by first | exact c33 h9.1 | exact c33 h9.2)]
        rw [e9] at hl
        refine lv_iinc (v := nI (j + 1)) (lv' := [(5, .int (nI (j + 1))), (3, .int (nI (mSkp (mVw b) (nI i) (mVw b (300 + i) 1) (j + 1)))), (0, .ref (ad 4)), (1, .int (nI i)), (2, .int (nI 5)), (4, .int (mVw b (300 + i) 1))]) hx hb dX3_toldOf_202 hl (k := 1) rfl (nI_add _ _) (by decide) rfl (fun ls hl => ?_)
        refine lv_goto (tgt := 162) hx hb dX3_toldOf_205 (by decide) ?_
        exact ih30 (k - (j + 1)) (j + 1) _ _ _ (by rw [hn31]; omega) ⟨rfl, (by omega), hE, lv_sub hl [0, 1, 2, 3, 4, 5] rfl⟩
      · skip
        refine lv_aload_n hx hb dX3_toldOf_183 rfl (lv_at hl 2 rfl) ?_
        refine va_get (D := G) (ci := 3) (v := .ref (ad 8)) (C := RX3) (T := TX3) (N := 11) hx hb hts hiX3 hown hN.1 (mE_P1 hE (S_4f kf27 kf28 kf29 rfl)) 0 rfl rfl 6 (by decide) (hts (.fieldLink RX3 19 "SealedCupboardsModel" "roots" "[I") (by decide +kernel)) (fun _ h9 => h9) rfl dX3_toldOf_184 ?_
        refine lv_iload hx hb dX3_toldOf_187 (lv_at hl 0 rfl) ?_
        refine mx_iald hx hb hN hE (S_8e ke26) (j := j) rfl (by omega) (by decide) dX3_toldOf_189 ?_
        refine lv_iload hx hb dX3_toldOf_190 (lv_at hl 5 rfl) ?_
        refine lv_icmp_ne (tgt := 199) hx hb dX3_toldOf_192 (by decide) (fun c34 => ?_) (fun c34 => ?_)
        · skip
          refine lv_iconst (v := nI 0) hx hb dX3_toldOf_199 (by decide) ?_
          refine mv_iadd (z := nI ((mSkp (mVw b) (nI i) (mVw b (300 + i) 1) j) + 0)) hx hb (nI_add _ _) dX3_toldOf_200 ?_
          refine lv_istore_n (lv' := [(3, .int (nI ((mSkp (mVw b) (nI i) (mVw b (300 + i) 1) j) + 0))), (5, .int (nI j)), (0, .ref (ad 4)), (1, .int (nI i)), (2, .int (nI 5)), (4, .int (mVw b (300 + i) 1))]) hx hb dX3_toldOf_201 rfl hl (by decide) rfl (fun ls hl => ?_)
          have e9 : mSkp (mVw b) (nI i) (mVw b (300 + i) 1) j + 0 = mSkp (mVw b) (nI i) (mVw b (300 + i) 1) (j + 1) := by simp only [mSkp]; rw [if_neg (by rw [mVw_0, mVw_1]; exact fun h9 => by first | exact c34 h9.1 | exact c34 h9.2)]
          rw [e9] at hl
          refine lv_iinc (v := nI (j + 1)) (lv' := [(5, .int (nI (j + 1))), (3, .int (nI (mSkp (mVw b) (nI i) (mVw b (300 + i) 1) (j + 1)))), (0, .ref (ad 4)), (1, .int (nI i)), (2, .int (nI 5)), (4, .int (mVw b (300 + i) 1))]) hx hb dX3_toldOf_202 hl (k := 1) rfl (nI_add _ _) (by decide) rfl (fun ls hl => ?_)
          refine lv_goto (tgt := 162) hx hb dX3_toldOf_205 (by decide) ?_
          exact ih30 (k - (j + 1)) (j + 1) _ _ _ (by rw [hn31]; omega) ⟨rfl, (by omega), hE, lv_sub hl [0, 1, 2, 3, 4, 5] rfl⟩
        · skip
          refine lv_iconst (v := nI 1) hx hb dX3_toldOf_195 (by decide) ?_
          refine lv_goto (tgt := 200) hx hb dX3_toldOf_196 (by decide) ?_
          refine mv_iadd (z := nI ((mSkp (mVw b) (nI i) (mVw b (300 + i) 1) j) + 1)) hx hb (nI_add _ _) dX3_toldOf_200 ?_
          refine lv_istore_n (lv' := [(3, .int (nI ((mSkp (mVw b) (nI i) (mVw b (300 + i) 1) j) + 1))), (5, .int (nI j)), (0, .ref (ad 4)), (1, .int (nI i)), (2, .int (nI 5)), (4, .int (mVw b (300 + i) 1))]) hx hb dX3_toldOf_201 rfl hl (by decide) rfl (fun ls hl => ?_)
          have e9 : mSkp (mVw b) (nI i) (mVw b (300 + i) 1) j + 1 = mSkp (mVw b) (nI i) (mVw b (300 + i) 1) (j + 1) := by simp only [mSkp]; rw [if_pos (by rw [mVw_0, mVw_1]; exact ⟨c33, c34⟩)]
          rw [e9] at hl
          refine lv_iinc (v := nI (j + 1)) (lv' := [(5, .int (nI (j + 1))), (3, .int (nI (mSkp (mVw b) (nI i) (mVw b (300 + i) 1) (j + 1)))), (0, .ref (ad 4)), (1, .int (nI i)), (2, .int (nI 5)), (4, .int (mVw b (300 + i) 1))]) hx hb dX3_toldOf_202 hl (k := 1) rfl (nI_add _ _) (by decide) rfl (fun ls hl => ?_)
          refine lv_goto (tgt := 162) hx hb dX3_toldOf_205 (by decide) ?_
          exact ih30 (k - (j + 1)) (j + 1) _ _ _ (by rw [hn31]; omega) ⟨rfl, (by omega), hE, lv_sub hl [0, 1, 2, 3, 4, 5] rfl⟩
