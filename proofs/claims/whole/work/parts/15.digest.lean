set_option maxHeartbeats 4000000 in
set_option maxRecDepth 100000 in
/-- the checksum -/
theorem c_X2_digest (l : Launch) (G : va_G) (cy : Nat → ClassId) (ad : Nat → Nat) (n k : Nat) (v : Nat → Nat → Int32) (o : Nat → Int64) (hn : n ≤ 6) (hk : k ≤ 20) (sz : Nat) (cs : Nat → Nat) (hcs : ∀ j, j < k → cs j < n ∧ v (400 + j) 0 = nI (cs j)) : mMl l yX2_digest wsX2_digest ({ frames := 11, cells := 0, slots := 0, locals := 260 }) G cy ad (Sy cy ad n k v o) sz [.ref (ad 0)] 0 0 (fun (r : Int64) u => r = mDigest (mCount v n k) (mTold v k) (fun i => v (200 + i)) (fun j => mAbout v j (cs j)) n k ∧ u = (ad, Sy cy ad n k v o)) := by
  refine Met.ofW (cc := cX2_digest) (maxL := 5) (ret := (some .long)) (by decide) rfl ?_
  intro p e s m args below meth c s₁ B hml hv
  obtain ⟨rfl, hv⟩ := hv
  have hsz := hv.1
  subst hsz
  have hN := hv.2.2
  have hE := mP_E hv
  have hx := B.exec
  have hb := B.bytes
  have hr := B.returns
  have hts := atoms_spec (ws := wsX2_digest) B.pre
  have hown : s.vm.findClass RX2 = some m.cls := findClass_of_methodNamed B.named
  have hlocks := B.notSynchronized
  have hiX2 : ∀ w ∈ wsX20, w ∈ wsX2_digest := by decide +kernel
  have hl := lv_entry ([.ref (ad 0)]) (n := 5) (Nat.le_of_ble_eq_true rfl)
  rw [lg_entry_eq]
  generalize (lg_sl ([.ref (ad 0)]) ++ List.replicate (5 - (lg_sl ([.ref (ad 0)])).length) Slot.unset).toArray = ls at hl ⊢
  have hl : lv_has ls 5 [(0, .ref (ad 0))] := hl
  refine lv_ldc2 (v := 1277) hx hb hown (hts (.constantLong RX2 155 1277) (by decide +kernel)) dX2_digest_0 ?_
  refine lv_lstore_n (lv' := [(1, .long (1277 : Int64)), (0, .ref (ad 0))]) hx hb dX2_digest_3 rfl hl (by decide) rfl (fun ls hl => ?_)
  refine lv_iconst (v := nI 0) hx hb dX2_digest_4 (by decide) ?_
  refine lv_istore_n (lv' := [(3, .int (nI 0)), (1, .long (1277 : Int64)), (0, .ref (ad 0))]) hx hb dX2_digest_5 rfl hl (by decide) rfl (fun ls hl => ?_)
  refine mx_loop (β := Nat) (fun n9 (t9 : Nat) H locs ls => n9 = 4 - t9 ∧ (t9 ≤ 4) ∧ mE G (mA ad (Sy cy ad n k v o) s.heap.size) s.heap ad (Sy cy ad n k v o) H locs ∧ lv_has ls 5 [(3, .int (nI t9)), (1, .long (mDg (mCount v n k) 1277 t9)), (0, .ref (ad 0))]) ?_ (4 - 0) (0) _ _ _ ⟨rfl, (by omega), hE, lv_sub hl [0, 1, 2] rfl⟩
  intro n9 t9 H locs ls hI ih1
  obtain ⟨hn2, hle, hE, hl⟩ := hI
  have hE : mE G (mA ad (Sy cy ad n k v o) s.heap.size) s.heap ad (Sy cy ad n k v o) H locs := hE
  have hl : lv_has ls 5 [(3, .int (nI t9)), (1, .long (mDg (mCount v n k) 1277 t9)), (0, .ref (ad 0))] := hl
  refine lv_iload_n hx hb dX2_digest_6 rfl (lv_at hl 0 rfl) ?_
  refine lv_iconst (v := nI 4) hx hb dX2_digest_7 (by decide) ?_
  refine mv_ge (tgt := 30) hx hb (by omega) (by omega) dX2_digest_8 (by decide) (fun c3 => ?_) (fun c3 => ?_)
  · skip
    have e9 : t9 = 4 := by omega
    subst e9
    have hl : lv_has ls 5 [(3, .int (nI 4)), (1, .long (mDgc (mTold v k) (fun i => v (200 + i)) (mDg (mCount v n k) 1277 4) 0)), (0, .ref (ad 0))] := hl
    refine lv_iconst (v := nI 0) hx hb dX2_digest_30 (by decide) ?_
    refine lv_istore_n (lv' := [(3, .int (nI 0)), (1, .long (mDgc (mTold v k) (fun i => v (200 + i)) (mDg (mCount v n k) 1277 4) 0)), (0, .ref (ad 0))]) hx hb dX2_digest_31 rfl hl (by decide) rfl (fun ls hl => ?_)
    refine mx_loop (β := Nat) (fun n9 (i : Nat) H locs ls => n9 = n - i ∧ (i ≤ n) ∧ mE G (mA ad (Sy cy ad n k v o) s.heap.size) s.heap ad (Sy cy ad n k v o) H locs ∧ lv_has ls 5 [(3, .int (nI i)), (1, .long (mDgc (mTold v k) (fun i => v (200 + i)) (mDg (mCount v n k) 1277 4) i)), (0, .ref (ad 0))]) ?_ (n - 0) (0) _ _ _ ⟨rfl, (by omega), hE, lv_sub hl [0, 1, 2] rfl⟩
    intro n9 i H locs ls hI ih4
    obtain ⟨hn5, hle, hE, hl⟩ := hI
    have hE : mE G (mA ad (Sy cy ad n k v o) s.heap.size) s.heap ad (Sy cy ad n k v o) H locs := hE
    have hl : lv_has ls 5 [(3, .int (nI i)), (1, .long (mDgc (mTold v k) (fun i => v (200 + i)) (mDg (mCount v n k) 1277 4) i)), (0, .ref (ad 0))] := hl
    refine lv_iload_n hx hb dX2_digest_32 rfl (lv_at hl 0 rfl) ?_
    refine lv_aload_n hx hb dX2_digest_33 rfl (lv_at hl 2 rfl) ?_
    refine va_get (D := G) (ci := 2) (v := .int (nI n)) (C := RX2) (T := TX2) (N := 5) hx hb hts hiX2 hown hN.1 (mE_P1 hE S_0) 0 rfl rfl 3 (by decide) (hts (.fieldLink RX2 25 "SealedCupboards" "cupboardCount" "I") (by decide +kernel)) (fun _ h9 => h9) rfl dX2_digest_34 ?_
    refine mv_ge (tgt := 108) hx hb (by omega) (by omega) dX2_digest_37 (by decide) (fun c6 => ?_) (fun c6 => ?_)
    · skip
      have e9 : n = i := by omega
      subst e9
      have hl : lv_has ls 5 [(3, .int (nI n)), (1, .long (mDgs (fun j => mAbout v j (cs j)) (mDgc (mTold v k) (fun i => v (200 + i)) (mDg (mCount v n k) 1277 4) n) 0)), (0, .ref (ad 0))] := hl
      refine lv_iconst (v := nI 0) hx hb dX2_digest_108 (by decide) ?_
      refine lv_istore_n (lv' := [(3, .int (nI 0)), (1, .long (mDgs (fun j => mAbout v j (cs j)) (mDgc (mTold v k) (fun i => v (200 + i)) (mDg (mCount v n k) 1277 4) n) 0)), (0, .ref (ad 0))]) hx hb dX2_digest_109 rfl hl (by decide) rfl (fun ls hl => ?_)
      refine mx_loop (β := Nat) (fun n9 (j : Nat) H locs ls => n9 = k - j ∧ (j ≤ k) ∧ mE G (mA ad (Sy cy ad n k v o) s.heap.size) s.heap ad (Sy cy ad n k v o) H locs ∧ lv_has ls 5 [(3, .int (nI j)), (1, .long (mDgs (fun j => mAbout v j (cs j)) (mDgc (mTold v k) (fun i => v (200 + i)) (mDg (mCount v n k) 1277 4) n) j)), (0, .ref (ad 0))]) ?_ (k - 0) (0) _ _ _ ⟨rfl, (by omega), hE, lv_sub hl [0, 1, 2] rfl⟩
      intro n9 j H locs ls hI ih7
      obtain ⟨hn8, hle, hE, hl⟩ := hI
      have hE : mE G (mA ad (Sy cy ad n k v o) s.heap.size) s.heap ad (Sy cy ad n k v o) H locs := hE
      have hl : lv_has ls 5 [(3, .int (nI j)), (1, .long (mDgs (fun j => mAbout v j (cs j)) (mDgc (mTold v k) (fun i => v (200 + i)) (mDg (mCount v n k) 1277 4) n) j)), (0, .ref (ad 0))] := hl
      refine lv_iload_n hx hb dX2_digest_110 rfl (lv_at hl 0 rfl) ?_
      refine lv_aload_n hx hb dX2_digest_111 rfl (lv_at hl 2 rfl) ?_
      refine va_get (D := G) (ci := 2) (v := .int (nI k)) (C := RX2) (T := TX2) (N := 5) hx hb hts hiX2 hown hN.1 (mE_P1 hE S_0) 0 rfl rfl 4 (by decide) (hts (.fieldLink RX2 97 "SealedCupboards" "sealCount" "I") (by decide +kernel)) (fun _ h9 => h9) rfl dX2_digest_112 ?_
      refine mv_ge (tgt := 154) hx hb (by omega) (by omega) dX2_digest_115 (by decide) (fun c9 => ?_) (fun c9 => ?_)
      · skip
        refine lv_lload_n hx hb dX2_digest_154 rfl (lv_at hl 1 rfl) ?_
        exact mx_lret hx hb hr hE hlocks ⟨by rw [show j = k by omega]; rfl, rfl⟩ dX2_digest_155
      · skip
        have h_j : j < k := c9
        refine lv_iconst (v := nI 0) hx hb dX2_digest_118 (by decide) ?_
        refine lv_istore (lv' := [(4, .int (nI 0)), (3, .int (nI j)), (1, .long (mDgs (fun j => mAbout v j (cs j)) (mDgc (mTold v k) (fun i => v (200 + i)) (mDg (mCount v n k) 1277 4) n) j)), (0, .ref (ad 0))]) hx hb dX2_digest_119 hl (by decide) rfl (fun ls hl => ?_)
        refine mx_loop (β := Nat) (fun n9 (x9 : Nat) H locs ls => n9 = 4 - x9 ∧ (x9 ≤ 4) ∧ mE G (mA ad (Sy cy ad n k v o) s.heap.size) s.heap ad (Sy cy ad n k v o) H locs ∧ lv_has ls 5 [(4, .int (nI x9)), (3, .int (nI j)), (1, .long (mDg (mAbout v j (cs j)) (mDgs (fun j => mAbout v j (cs j)) (mDgc (mTold v k) (fun i => v (200 + i)) (mDg (mCount v n k) 1277 4) n) j) x9)), (0, .ref (ad 0))]) ?_ (4 - 0) (0) _ _ _ ⟨rfl, (by omega), hE, lv_sub hl [0, 1, 2, 3] rfl⟩
        intro n9 x9 H locs ls hI ih10
        obtain ⟨hn11, hle, hE, hl⟩ := hI
        have hE : mE G (mA ad (Sy cy ad n k v o) s.heap.size) s.heap ad (Sy cy ad n k v o) H locs := hE
        have hl : lv_has ls 5 [(4, .int (nI x9)), (3, .int (nI j)), (1, .long (mDg (mAbout v j (cs j)) (mDgs (fun j => mAbout v j (cs j)) (mDgc (mTold v k) (fun i => v (200 + i)) (mDg (mCount v n k) 1277 4) n) j) x9)), (0, .ref (ad 0))] := hl
        refine lv_iload hx hb dX2_digest_121 (lv_at hl 0 rfl) ?_
        refine lv_iconst (v := nI 4) hx hb dX2_digest_123 (by decide) ?_
        refine mv_ge (tgt := 148) hx hb (by omega) (by omega) dX2_digest_124 (by decide) (fun c12 => ?_) (fun c12 => ?_)
        · skip
          have e9 : x9 = 4 := by omega
          subst e9
          have hl : lv_has ls 5 [(4, .int (nI 4)), (3, .int (nI j)), (1, .long (mDgs (fun j => mAbout v j (cs j)) (mDgc (mTold v k) (fun i => v (200 + i)) (mDg (mCount v n k) 1277 4) n) (j + 1))), (0, .ref (ad 0))] := hl
          refine lv_iinc (v := nI (j + 1)) (lv' := [(3, .int (nI (j + 1))), (4, .int (nI 4)), (1, .long (mDgs (fun j => mAbout v j (cs j)) (mDgc (mTold v k) (fun i => v (200 + i)) (mDg (mCount v n k) 1277 4) n) (j + 1))), (0, .ref (ad 0))]) hx hb dX2_digest_148 hl (k := 1) rfl (nI_add _ _) (by decide) rfl (fun ls hl => ?_)
          refine lv_goto (tgt := 110) hx hb dX2_digest_151 (by decide) ?_
          exact ih7 (k - (j + 1)) (j + 1) _ _ _ (by rw [hn8]; omega) ⟨rfl, (by omega), hE, lv_sub hl [0, 2, 3] rfl⟩
        · skip
          refine lv_lload_n hx hb dX2_digest_127 rfl (lv_at hl 2 rfl) ?_
          refine lv_ldc2 (v := 31) hx hb hown (hts (.constantLong RX2 157 31) (by decide +kernel)) dX2_digest_128 ?_
          refine lv_lmul hx hb dX2_digest_131 ?_
          refine lv_aload_n hx hb dX2_digest_132 rfl (lv_at hl 3 rfl) ?_
          refine lv_iload_n hx hb dX2_digest_133 rfl (lv_at hl 1 rfl) ?_
          refine lv_iload hx hb dX2_digest_134 (lv_at hl 0 rfl) ?_
          refine va_calli (va_runV (As := [.int (nI j), .int (nI x9)]) (rest := [.long ((mDg (mAbout v j (cs j)) (mDgs (fun j => mAbout v j (cs j)) (mDgc (mTold v k) (fun i => v (200 + i)) (mDg (mCount v n k) 1277 4) n) j) x9) * (31 : Int64))]) ⟨hx, hb, hml, hown, hts⟩ (c_X2_about l G cy ad n k v o hn hk _ j h_j x9 (by omega) (cs j) (hcs j h_j).1 (hcs j h_j).2) (cwV 2 hts gX2_digest_X2_about rfl rfl rfl (by decide +kernel) ⟨Nat.le_of_ble_eq_true rfl, Nat.le_of_ble_eq_true rfl⟩) (mP_V (r := (RX2, TX2, 5)) hN hE S_0 rfl) rfl rfl hl.1 rfl (lv_room (Nat.le_of_ble_eq_true rfl)) dX2_digest_136 ⟨Nat.le_of_ble_eq_true rfl, Nat.le_of_ble_eq_true rfl⟩) hE.2.2.2 (fun q _ h => mE_A hE q h) (mE_A hE) (fun r uq tq H locs ht hvm hw hB hz1 hk1 hS => ?_)
          obtain ⟨rfl, rfl⟩ := hw
          have hE : mE G (mA ad (Sy cy ad n k v o) s.heap.size) s.heap ad (Sy cy ad n k v o) H locs := mE_call hE hB ht hS
          refine lv_i2l hx hb dX2_digest_139 rfl ?_
          refine lv_ladd hx hb dX2_digest_140 ?_
          refine lv_lstore_n (lv' := [(1, .long (((mDg (mAbout v j (cs j)) (mDgs (fun j => mAbout v j (cs j)) (mDgc (mTold v k) (fun i => v (200 + i)) (mDg (mCount v n k) 1277 4) n) j) x9) * (31 : Int64)) + ((mAbout v j (cs j) x9).toInt64))), (4, .int (nI x9)), (3, .int (nI j)), (0, .ref (ad 0))]) hx hb dX2_digest_141 rfl hl (by decide) rfl (fun ls hl => ?_)
          have hl : lv_has ls 5 [(1, .long (mDg (mAbout v j (cs j)) (mDgs (fun j => mAbout v j (cs j)) (mDgc (mTold v k) (fun i => v (200 + i)) (mDg (mCount v n k) 1277 4) n) j) (x9 + 1))), (4, .int (nI x9)), (3, .int (nI j)), (0, .ref (ad 0))] := hl
          refine lv_iinc (v := nI (x9 + 1)) (lv' := [(4, .int (nI (x9 + 1))), (1, .long (mDg (mAbout v j (cs j)) (mDgs (fun j => mAbout v j (cs j)) (mDgc (mTold v k) (fun i => v (200 + i)) (mDg (mCount v n k) 1277 4) n) j) (x9 + 1))), (3, .int (nI j)), (0, .ref (ad 0))]) hx hb dX2_digest_142 hl (k := 1) rfl (nI_add _ _) (by decide) rfl (fun ls hl => ?_)
          refine lv_goto (tgt := 121) hx hb dX2_digest_145 (by decide) ?_
          exact ih10 (4 - (x9 + 1)) (x9 + 1) _ _ _ (by rw [hn11]; omega) ⟨rfl, (by omega), hE, lv_sub hl [0, 2, 1, 3] rfl⟩
    · skip
      have h_i : i < n := c6
      refine lv_iconst (v := nI 0) hx hb dX2_digest_40 (by decide) ?_
      refine lv_istore (lv' := [(4, .int (nI 0)), (3, .int (nI i)), (1, .long (mDgc (mTold v k) (fun i => v (200 + i)) (mDg (mCount v n k) 1277 4) i)), (0, .ref (ad 0))]) hx hb dX2_digest_41 hl (by decide) rfl (fun ls hl => ?_)
      refine mx_loop (β := Nat) (fun n9 (y9 : Nat) H locs ls => n9 = 6 - y9 ∧ (y9 ≤ 6) ∧ mE G (mA ad (Sy cy ad n k v o) s.heap.size) s.heap ad (Sy cy ad n k v o) H locs ∧ lv_has ls 5 [(4, .int (nI y9)), (3, .int (nI i)), (1, .long (mDg (mTold v k i) (mDgc (mTold v k) (fun i => v (200 + i)) (mDg (mCount v n k) 1277 4) i) y9)), (0, .ref (ad 0))]) ?_ (6 - 0) (0) _ _ _ ⟨rfl, (by omega), hE, lv_sub hl [0, 1, 2, 3] rfl⟩
      intro n9 y9 H locs ls hI ih13
      obtain ⟨hn14, hle, hE, hl⟩ := hI
      have hE : mE G (mA ad (Sy cy ad n k v o) s.heap.size) s.heap ad (Sy cy ad n k v o) H locs := hE
      have hl : lv_has ls 5 [(4, .int (nI y9)), (3, .int (nI i)), (1, .long (mDg (mTold v k i) (mDgc (mTold v k) (fun i => v (200 + i)) (mDg (mCount v n k) 1277 4) i) y9)), (0, .ref (ad 0))] := hl
      refine lv_iload hx hb dX2_digest_43 (lv_at hl 0 rfl) ?_
      refine lv_bipush (v := nI 6) hx hb dX2_digest_45 (by decide) ?_
      refine mv_ge (tgt := 71) hx hb (by omega) (by omega) dX2_digest_47 (by decide) (fun c15 => ?_) (fun c15 => ?_)
      · skip
        have e9 : y9 = 6 := by omega
        subst e9
        have hl : lv_has ls 5 [(4, .int (nI 6)), (3, .int (nI i)), (1, .long (mDg (v (200 + i)) (mDg (mTold v k i) (mDgc (mTold v k) (fun i => v (200 + i)) (mDg (mCount v n k) 1277 4) i) 6) 0)), (0, .ref (ad 0))] := hl
        refine lv_iconst (v := nI 0) hx hb dX2_digest_71 (by decide) ?_
        refine lv_istore (lv' := [(4, .int (nI 0)), (3, .int (nI i)), (1, .long (mDg (v (200 + i)) (mDg (mTold v k i) (mDgc (mTold v k) (fun i => v (200 + i)) (mDg (mCount v n k) 1277 4) i) 6) 0)), (0, .ref (ad 0))]) hx hb dX2_digest_72 hl (by decide) rfl (fun ls hl => ?_)
        refine mx_loop (β := Nat) (fun n9 (z9 : Nat) H locs ls => n9 = 16 - z9 ∧ (z9 ≤ 16) ∧ mE G (mA ad (Sy cy ad n k v o) s.heap.size) s.heap ad (Sy cy ad n k v o) H locs ∧ lv_has ls 5 [(4, .int (nI z9)), (3, .int (nI i)), (1, .long (mDg (v (200 + i)) (mDg (mTold v k i) (mDgc (mTold v k) (fun i => v (200 + i)) (mDg (mCount v n k) 1277 4) i) 6) z9)), (0, .ref (ad 0))]) ?_ (16 - 0) (0) _ _ _ ⟨rfl, (by omega), hE, lv_sub hl [0, 1, 2, 3] rfl⟩
        intro n9 z9 H locs ls hI ih16
        obtain ⟨hn17, hle, hE, hl⟩ := hI
        have hE : mE G (mA ad (Sy cy ad n k v o) s.heap.size) s.heap ad (Sy cy ad n k v o) H locs := hE
        have hl : lv_has ls 5 [(4, .int (nI z9)), (3, .int (nI i)), (1, .long (mDg (v (200 + i)) (mDg (mTold v k i) (mDgc (mTold v k) (fun i => v (200 + i)) (mDg (mCount v n k) 1277 4) i) 6) z9)), (0, .ref (ad 0))] := hl
        refine lv_iload hx hb dX2_digest_74 (lv_at hl 0 rfl) ?_
        refine lv_bipush (v := nI 16) hx hb dX2_digest_76 (by decide) ?_
        refine mv_ge (tgt := 102) hx hb (by omega) (by omega) dX2_digest_78 (by decide) (fun c18 => ?_) (fun c18 => ?_)
        · skip
          have e9 : z9 = 16 := by omega
          subst e9
          have hl : lv_has ls 5 [(4, .int (nI 16)), (3, .int (nI i)), (1, .long (mDgc (mTold v k) (fun i => v (200 + i)) (mDg (mCount v n k) 1277 4) (i + 1))), (0, .ref (ad 0))] := hl
          refine lv_iinc (v := nI (i + 1)) (lv' := [(3, .int (nI (i + 1))), (4, .int (nI 16)), (1, .long (mDgc (mTold v k) (fun i => v (200 + i)) (mDg (mCount v n k) 1277 4) (i + 1))), (0, .ref (ad 0))]) hx hb dX2_digest_102 hl (k := 1) rfl (nI_add _ _) (by decide) rfl (fun ls hl => ?_)
          refine lv_goto (tgt := 32) hx hb dX2_digest_105 (by decide) ?_
          exact ih4 (n - (i + 1)) (i + 1) _ _ _ (by rw [hn5]; omega) ⟨rfl, (by omega), hE, lv_sub hl [0, 2, 3] rfl⟩
        · skip
          refine lv_lload_n hx hb dX2_digest_81 rfl (lv_at hl 2 rfl) ?_
          refine lv_ldc2 (v := 31) hx hb hown (hts (.constantLong RX2 157 31) (by decide +kernel)) dX2_digest_82 ?_
          refine lv_lmul hx hb dX2_digest_85 ?_
          refine lv_aload_n hx hb dX2_digest_86 rfl (lv_at hl 3 rfl) ?_
          refine lv_iload_n hx hb dX2_digest_87 rfl (lv_at hl 1 rfl) ?_
          refine lv_iload hx hb dX2_digest_88 (lv_at hl 0 rfl) ?_
          refine va_calli (va_runV (As := [.int (nI i), .int (nI z9)]) (rest := [.long ((mDg (v (200 + i)) (mDg (mTold v k i) (mDgc (mTold v k) (fun i => v (200 + i)) (mDg (mCount v n k) 1277 4) i) 6) z9) * (31 : Int64))]) ⟨hx, hb, hml, hown, hts⟩ (c_X2_thing l G cy ad n k v o hn hk _ i h_i z9 (by omega)) (cwV 2 hts gX2_digest_X2_thing rfl rfl rfl (by decide +kernel) ⟨Nat.le_of_ble_eq_true rfl, Nat.le_of_ble_eq_true rfl⟩) (mP_V (r := (RX2, TX2, 5)) hN hE S_0 rfl) rfl rfl hl.1 rfl (lv_room (Nat.le_of_ble_eq_true rfl)) dX2_digest_90 ⟨Nat.le_of_ble_eq_true rfl, Nat.le_of_ble_eq_true rfl⟩) hE.2.2.2 (fun q _ h => mE_A hE q h) (mE_A hE) (fun r uq tq H locs ht hvm hw hB hz1 hk1 hS => ?_)
          obtain ⟨rfl, rfl⟩ := hw
          have hE : mE G (mA ad (Sy cy ad n k v o) s.heap.size) s.heap ad (Sy cy ad n k v o) H locs := mE_call hE hB ht hS
          refine lv_i2l hx hb dX2_digest_93 rfl ?_
          refine lv_ladd hx hb dX2_digest_94 ?_
          refine lv_lstore_n (lv' := [(1, .long (((mDg (v (200 + i)) (mDg (mTold v k i) (mDgc (mTold v k) (fun i => v (200 + i)) (mDg (mCount v n k) 1277 4) i) 6) z9) * (31 : Int64)) + ((v (200 + i) z9).toInt64))), (4, .int (nI z9)), (3, .int (nI i)), (0, .ref (ad 0))]) hx hb dX2_digest_95 rfl hl (by decide) rfl (fun ls hl => ?_)
          have hl : lv_has ls 5 [(1, .long (mDg (v (200 + i)) (mDg (mTold v k i) (mDgc (mTold v k) (fun i => v (200 + i)) (mDg (mCount v n k) 1277 4) i) 6) (z9 + 1))), (4, .int (nI z9)), (3, .int (nI i)), (0, .ref (ad 0))] := hl
          refine lv_iinc (v := nI (z9 + 1)) (lv' := [(4, .int (nI (z9 + 1))), (1, .long (mDg (v (200 + i)) (mDg (mTold v k i) (mDgc (mTold v k) (fun i => v (200 + i)) (mDg (mCount v n k) 1277 4) i) 6) (z9 + 1))), (3, .int (nI i)), (0, .ref (ad 0))]) hx hb dX2_digest_96 hl (k := 1) rfl (nI_add _ _) (by decide) rfl (fun ls hl => ?_)
          refine lv_goto (tgt := 74) hx hb dX2_digest_99 (by decide) ?_
          exact ih16 (16 - (z9 + 1)) (z9 + 1) _ _ _ (by rw [hn17]; omega) ⟨rfl, (by omega), hE, lv_sub hl [0, 2, 1, 3] rfl⟩
      · skip
        refine lv_lload_n hx hb dX2_digest_50 rfl (lv_at hl 2 rfl) ?_
        refine lv_ldc2 (v := 31) hx hb hown (hts (.constantLong RX2 157 31) (by decide +kernel)) dX2_digest_51 ?_
        refine lv_lmul hx hb dX2_digest_54 ?_
        refine lv_aload_n hx hb dX2_digest_55 rfl (lv_at hl 3 rfl) ?_
        refine lv_iload_n hx hb dX2_digest_56 rfl (lv_at hl 1 rfl) ?_
        refine lv_iload hx hb dX2_digest_57 (lv_at hl 0 rfl) ?_
        refine va_calli (va_runV (As := [.int (nI i), .int (nI y9)]) (rest := [.long ((mDg (mTold v k i) (mDgc (mTold v k) (fun i => v (200 + i)) (mDg (mCount v n k) 1277 4) i) y9) * (31 : Int64))]) ⟨hx, hb, hml, hown, hts⟩ (c_X2_told l G cy ad n k v o hn hk _ i h_i y9 (by omega)) (cwV 2 hts gX2_digest_X2_told rfl rfl rfl (by decide +kernel) ⟨Nat.le_of_ble_eq_true rfl, Nat.le_of_ble_eq_true rfl⟩) (mP_V (r := (RX2, TX2, 5)) hN hE S_0 rfl) rfl rfl hl.1 rfl (lv_room (Nat.le_of_ble_eq_true rfl)) dX2_digest_59 ⟨Nat.le_of_ble_eq_true rfl, Nat.le_of_ble_eq_true rfl⟩) hE.2.2.2 (fun q _ h => mE_A hE q h) (mE_A hE) (fun r uq tq H locs ht hvm hw hB hz1 hk1 hS => ?_)
        obtain ⟨rfl, rfl⟩ := hw
        have hE : mE G (mA ad (Sy cy ad n k v o) s.heap.size) s.heap ad (Sy cy ad n k v o) H locs := mE_call hE hB ht hS
        refine lv_i2l hx hb dX2_digest_62 rfl ?_
        refine lv_ladd hx hb dX2_digest_63 ?_
        refine lv_lstore_n (lv' := [(1, .long (((mDg (mTold v k i) (mDgc (mTold v k) (fun i => v (200 + i)) (mDg (mCount v n k) 1277 4) i) y9) * (31 : Int64)) + ((mTold v k i y9).toInt64))), (4, .int (nI y9)), (3, .int (nI i)), (0, .ref (ad 0))]) hx hb dX2_digest_64 rfl hl (by decide) rfl (fun ls hl => ?_)
        have hl : lv_has ls 5 [(1, .long (mDg (mTold v k i) (mDgc (mTold v k) (fun i => v (200 + i)) (mDg (mCount v n k) 1277 4) i) (y9 + 1))), (4, .int (nI y9)), (3, .int (nI i)), (0, .ref (ad 0))] := hl
        refine lv_iinc (v := nI (y9 + 1)) (lv' := [(4, .int (nI (y9 + 1))), (1, .long (mDg (mTold v k i) (mDgc (mTold v k) (fun i => v (200 + i)) (mDg (mCount v n k) 1277 4) i) (y9 + 1))), (3, .int (nI i)), (0, .ref (ad 0))]) hx hb dX2_digest_65 hl (k := 1) rfl (nI_add _ _) (by decide) rfl (fun ls hl => ?_)
        refine lv_goto (tgt := 43) hx hb dX2_digest_68 (by decide) ?_
        exact ih13 (6 - (y9 + 1)) (y9 + 1) _ _ _ (by rw [hn14]; omega) ⟨rfl, (by omega), hE, lv_sub hl [0, 2, 1, 3] rfl⟩
  · skip
    refine lv_lload_n hx hb dX2_digest_11 rfl (lv_at hl 1 rfl) ?_
    refine lv_ldc2 (v := 31) hx hb hown (hts (.constantLong RX2 157 31) (by decide +kernel)) dX2_digest_12 ?_
    refine lv_lmul hx hb dX2_digest_15 ?_
    refine lv_aload_n hx hb dX2_digest_16 rfl (lv_at hl 2 rfl) ?_
    refine lv_iload_n hx hb dX2_digest_17 rfl (lv_at hl 0 rfl) ?_
    refine va_calli (va_runV (As := [.int (nI t9)]) (rest := [.long ((mDg (mCount v n k) 1277 t9) * (31 : Int64))]) ⟨hx, hb, hml, hown, hts⟩ (c_X2_count l G cy ad n k v o hn hk _ t9 (by omega)) (cwV 1 hts gX2_digest_X2_count rfl rfl rfl (by decide +kernel) ⟨Nat.le_of_ble_eq_true rfl, Nat.le_of_ble_eq_true rfl⟩) (mP_V (r := (RX2, TX2, 5)) hN hE S_0 rfl) rfl rfl hl.1 rfl (lv_room (Nat.le_of_ble_eq_true rfl)) dX2_digest_18 ⟨Nat.le_of_ble_eq_true rfl, Nat.le_of_ble_eq_true rfl⟩) hE.2.2.2 (fun q _ h => mE_A hE q h) (mE_A hE) (fun r uq tq H locs ht hvm hw hB hz1 hk1 hS => ?_)
    obtain ⟨rfl, rfl⟩ := hw
    have hE : mE G (mA ad (Sy cy ad n k v o) s.heap.size) s.heap ad (Sy cy ad n k v o) H locs := mE_call hE hB ht hS
    refine lv_i2l hx hb dX2_digest_21 rfl ?_
    refine lv_ladd hx hb dX2_digest_22 ?_
    refine lv_lstore_n (lv' := [(1, .long (((mDg (mCount v n k) 1277 t9) * (31 : Int64)) + ((mCount v n k t9).toInt64))), (3, .int (nI t9)), (0, .ref (ad 0))]) hx hb dX2_digest_23 rfl hl (by decide) rfl (fun ls hl => ?_)
    have hl : lv_has ls 5 [(1, .long (mDg (mCount v n k) 1277 (t9 + 1))), (3, .int (nI t9)), (0, .ref (ad 0))] := hl
    refine lv_iinc (v := nI (t9 + 1)) (lv' := [(3, .int (nI (t9 + 1))), (1, .long (mDg (mCount v n k) 1277 (t9 + 1))), (0, .ref (ad 0))]) hx hb dX2_digest_24 hl (k := 1) rfl (nI_add _ _) (by decide) rfl (fun ls hl => ?_)
    refine lv_goto (tgt := 6) hx hb dX2_digest_27 (by decide) ?_
    exact ih1 (4 - (t9 + 1)) (t9 + 1) _ _ _ (by rw [hn2]; omega) ⟨rfl, (by omega), hE, lv_sub hl [0, 1, 2] rfl⟩
