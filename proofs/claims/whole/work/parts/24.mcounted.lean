set_option maxHeartbeats 4000000 in
set_option maxRecDepth 100000 in
/-- counted -/
theorem c_X3_counted (l : Launch) (G : va_G) (cy : Nat → ClassId) (ad : Nat → Nat) (cn ck n k : Nat) (v : Nat → Nat → Int32) (o : Nat → Int64) (hn : n ≤ 6) (hk : k ≤ 20) (sz : Nat) (hm1 : v 4 1 = nI n) (hm2 : v 4 2 = nI k) (t9 : Nat) (ht9 : t9 < 4) {b : Nat → Nat → Int32} (h5 : v 5 = b 5) (h6 : v 6 = b 6) : mMi l yX3_counted wsX3_counted ({ frames := 10, cells := 0, slots := 0, locals := 220 }) G cy ad (Sy cy ad cn ck v o) sz [.ref (ad 4), .int (nI t9)] 0 0 (fun (r : Int32) u => r = mCount (mVw b) n k t9 ∧ ∃ v' : Nat → Nat → Int32, u = (ad, Sy cy ad cn ck v' o) ∧ mQT v v' (v 4 0)) := by
  refine Met.ofW (cc := cX3_counted) (maxL := 7) (ret := (some .int)) (by decide) rfl ?_
  intro p e s m args below meth c s₁ B hml hv
  obtain ⟨rfl, hv⟩ := hv
  have hsz := hv.1
  subst hsz
  have hN := hv.2.2
  have hE := mP_E hv
  have hx := B.exec
  have hb := B.bytes
  have hr := B.returns
  have hts := atoms_spec (ws := wsX3_counted) B.pre
  have hown : s.vm.findClass RX3 = some m.cls := findClass_of_methodNamed B.named
  have hlocks := B.notSynchronized
  have hiX3 : ∀ w ∈ wsX30, w ∈ wsX3_counted := by decide +kernel
  have hl := lv_entry ([.ref (ad 4), .int (nI t9)]) (n := 7) (Nat.le_of_ble_eq_true rfl)
  rw [lg_entry_eq]
  generalize (lg_sl ([.ref (ad 4), .int (nI t9)]) ++ List.replicate (7 - (lg_sl ([.ref (ad 4), .int (nI t9)])).length) Slot.unset).toArray = ls at hl ⊢
  have hl : lv_has ls 7 [(0, .ref (ad 4)), (1, .int (nI t9))] := hl
  refine lv_iconst (v := nI 0) hx hb dX3_counted_0 (by decide) ?_
  refine lv_istore_n (lv' := [(2, .int (nI 0)), (0, .ref (ad 4)), (1, .int (nI t9))]) hx hb dX3_counted_1 rfl hl (by decide) rfl (fun ls hl => ?_)
  refine lv_iload_n hx hb dX3_counted_2 rfl (lv_at hl 2 rfl) ?_
  rcases (show t9 = 0 ∨ t9 = 1 ∨ t9 = 2 ∨ t9 = 3 by omega) with rfl | rfl | rfl | rfl
  · skip
    have hl : lv_has ls 7 [(2, .int (nI 0)), (0, .ref (ad 4)), (1, .int (nI 0))] := hl
    refine lv_tableIn (off := 25) (tgt := 28) hx hb dX3_counted_3 (by decide) (by decide) rfl (by decide) ?_
    refine lv_aload_n hx hb dX3_counted_28 rfl (lv_at hl 1 rfl) ?_
    refine va_get (D := G) (ci := 3) (v := .int (nI n)) (C := RX3) (T := TX3) (N := 11) hx hb hts hiX3 hown hN.1 (mE_P1 hE (S_4f rfl hm1 hm2 rfl)) 0 rfl rfl 1 (by decide) (hts (.fieldLink RX3 35 "SealedCupboardsModel" "cupboards" "I") (by decide +kernel)) (fun _ h9 => h9) rfl dX3_counted_29 ?_
    exact mx_iret hx hb hr hE hlocks ⟨rfl, ⟨v, rfl, fun w h4 h10 h11 => rfl, rfl, rfl, rfl⟩⟩ dX3_counted_32
  · skip
    have hl : lv_has ls 7 [(2, .int (nI 0)), (0, .ref (ad 4)), (1, .int (nI 1))] := hl
    refine lv_tableIn (off := 30) (tgt := 33) hx hb dX3_counted_3 (by decide) (by decide) rfl (by decide) ?_
    refine lv_aload_n hx hb dX3_counted_33 rfl (lv_at hl 1 rfl) ?_
    refine va_get (D := G) (ci := 3) (v := .int (nI k)) (C := RX3) (T := TX3) (N := 11) hx hb hts hiX3 hown hN.1 (mE_P1 hE (S_4f rfl hm1 hm2 rfl)) 0 rfl rfl 2 (by decide) (hts (.fieldLink RX3 42 "SealedCupboardsModel" "seals" "I") (by decide +kernel)) (fun _ h9 => h9) rfl dX3_counted_34 ?_
    exact mx_iret hx hb hr hE hlocks ⟨rfl, ⟨v, rfl, fun w h4 h10 h11 => rfl, rfl, rfl, rfl⟩⟩ dX3_counted_37
  · skip
    have hl : lv_has ls 7 [(2, .int (nI 0)), (0, .ref (ad 4)), (1, .int (nI 2))] := hl
    refine lv_tableIn (off := 35) (tgt := 38) hx hb dX3_counted_3 (by decide) (by decide) rfl (by decide) ?_
    refine lv_iconst (v := nI 0) hx hb dX3_counted_38 (by decide) ?_
    refine lv_istore_n (lv' := [(3, .int (nI 0)), (2, .int (nI 0)), (0, .ref (ad 4)), (1, .int (nI 2))]) hx hb dX3_counted_39 rfl hl (by decide) rfl (fun ls hl => ?_)
    refine mx_loop (β := Nat × (Nat → Nat → Int32)) (fun n9 (bb9 : Nat × (Nat → Nat → Int32)) H locs ls => (fun (i : Nat) (v9 : Nat → Nat → Int32) => n9 = n - i ∧ (i ≤ n ∧ mQT v v9 (v 4 0)) ∧ mE G (mA ad (Sy cy ad cn ck v o) s.heap.size) s.heap ad (Sy cy ad cn ck v9 o) H locs ∧ lv_has ls 7 [(3, .int (nI i)), (2, .int (nI (mDif (mVw b) i))), (0, .ref (ad 4)), (1, .int (nI 2))]) (bb9.1) (bb9.2)) ?_ (n - 0) (0, v) _ _ _ ⟨rfl, ⟨by omega, ⟨fun w _ _ _ => rfl, rfl, rfl, rfl⟩⟩, hE, lv_sub hl [0, 1, 2, 3] rfl⟩
    intro n9 bb9 H locs ls hI ih1
    obtain ⟨i, v9⟩ := bb9
    obtain ⟨hn2, ⟨hle, hq9⟩, hE, hl⟩ := hI
    have hbd := mDif_le (mVw b) i
    have hE : mE G (mA ad (Sy cy ad cn ck v o) s.heap.size) s.heap ad (Sy cy ad cn ck v9 o) H locs := hE
    have hl : lv_has ls 7 [(3, .int (nI i)), (2, .int (nI (mDif (mVw b) i))), (0, .ref (ad 4)), (1, .int (nI 2))] := hl
    refine lv_iload_n hx hb dX3_counted_40 rfl (lv_at hl 0 rfl) ?_
    refine lv_aload_n hx hb dX3_counted_41 rfl (lv_at hl 2 rfl) ?_
    refine va_get (D := G) (ci := 3) (v := .int (nI n)) (C := RX3) (T := TX3) (N := 11) hx hb hts hiX3 hown hN.1 (mE_P1 hE (S_4f hq9.2.1 (hq9.2.2.1.trans hm1) (hq9.2.2.2.trans hm2) rfl)) 0 rfl rfl 1 (by decide) (hts (.fieldLink RX3 35 "SealedCupboardsModel" "cupboards" "I") (by decide +kernel)) (fun _ h9 => h9) rfl dX3_counted_42 ?_
    refine mv_ge (tgt := 115) hx hb (by omega) (by omega) dX3_counted_45 (by decide) (fun c3 => ?_) (fun c3 => ?_)
    · skip
      refine lv_iload_n hx hb dX3_counted_115 rfl (lv_at hl 1 rfl) ?_
      exact mx_iret hx hb hr hE hlocks ⟨by rw [show i = n by omega]; rfl, ⟨v9, rfl, fun w h4 h10 h11 => (hq9.1 w h4 h10 h11), hq9.2.1, ((hq9.2.2.1.trans hm1).trans hm1.symm), ((hq9.2.2.2.trans hm2).trans hm2.symm)⟩⟩ dX3_counted_116
    · skip
      have h_i : i < n := c3
      refine lv_aload_n hx hb dX3_counted_48 rfl (lv_at hl 2 rfl) ?_
      refine lv_iload_n hx hb dX3_counted_49 rfl (lv_at hl 0 rfl) ?_
      refine va_calli (va_runV (As := [.int (nI i)]) (rest := []) ⟨hx, hb, hml, hown, hts⟩ (c_X3_root l G cy ad cn ck n k v9 o hn hk _ (hq9.2.2.1.trans hm1) (hq9.2.2.2.trans hm2) i h_i ((hq9.1 5 (by decide) (by decide) (by decide)).trans h5)) (cwV 1 hts gX3_counted_X3_root rfl rfl rfl (by decide +kernel) ⟨Nat.le_of_ble_eq_true rfl, Nat.le_of_ble_eq_true rfl⟩) (mP_V (r := (RX3, TX3, 11)) hN hE (S_4f hq9.2.1 (hq9.2.2.1.trans hm1) (hq9.2.2.2.trans hm2) rfl) rfl) rfl rfl hl.1 rfl (lv_room (Nat.le_of_ble_eq_true rfl)) dX3_counted_50 ⟨Nat.le_of_ble_eq_true rfl, Nat.le_of_ble_eq_true rfl⟩) hE.2.2.2 (fun q _ h => mE_A hE q h) (mE_A hE) (fun r uq tq H locs ht hvm hw hB hz1 hk1 hS => ?_)
      obtain ⟨rfl, kv4, rfl, kq5⟩ := hw
      have hE : mE G (mA ad (Sy cy ad cn ck v o) s.heap.size) s.heap ad (Sy cy ad cn ck kv4 o) H locs := mE_call hE hB ht hS
      have ke6 : kv4 5 = b 5 := (kq5.1 5 (by decide) (by decide) (by decide)).trans ((hq9.1 5 (by decide) (by decide) (by decide)).trans h5)
      have ke7 : kv4 6 = b 6 := (kq5.1 6 (by decide) (by decide) (by decide)).trans ((hq9.1 6 (by decide) (by decide) (by decide)).trans h6)
      have kf8 : kv4 4 0 = v 4 0 := (kq5.2.1).trans hq9.2.1
      have kf9 : kv4 4 1 = nI n := (kq5.2.2.1).trans (hq9.2.2.1.trans hm1)
      have kf10 : kv4 4 2 = nI k := (kq5.2.2.2).trans (hq9.2.2.2.trans hm2)
      rw [show mS (fun d => (b 5) (16 * i + d)) 1 = mVw b (300 + i) 1 from (mVw_s (by omega)).symm]
      refine lv_istore (lv' := [(4, .int (mVw b (300 + i) 1)), (3, .int (nI i)), (2, .int (nI (mDif (mVw b) i))), (0, .ref (ad 4)), (1, .int (nI 2))]) hx hb dX3_counted_53 hl (by decide) rfl (fun ls hl => ?_)
      refine lv_iconst (v := nI 1) hx hb dX3_counted_55 (by decide) ?_
      refine lv_istore (lv' := [(5, .int (nI 1)), (4, .int (mVw b (300 + i) 1)), (3, .int (nI i)), (2, .int (nI (mDif (mVw b) i))), (0, .ref (ad 4)), (1, .int (nI 2))]) hx hb dX3_counted_56 hl (by decide) rfl (fun ls hl => ?_)
      have e9 : mb (mHas (mVw b) (mVw b (300 + i) 1) 0 = false) = nI 1 := mb_t rfl
      have hl : lv_has ls 7 [(5, .int (mb (mHas (mVw b) (mVw b (300 + i) 1) 0 = false))), (4, .int (mVw b (300 + i) 1)), (3, .int (nI i)), (2, .int (nI (mDif (mVw b) i))), (0, .ref (ad 4)), (1, .int (nI 2))] := by rw [e9]; exact hl
      refine lv_iconst (v := nI 0) hx hb dX3_counted_58 (by decide) ?_
      refine lv_istore (lv' := [(6, .int (nI 0)), (5, .int (mb (mHas (mVw b) (mVw b (300 + i) 1) 0 = false))), (4, .int (mVw b (300 + i) 1)), (3, .int (nI i)), (2, .int (nI (mDif (mVw b) i))), (0, .ref (ad 4)), (1, .int (nI 2))]) hx hb dX3_counted_59 hl (by decide) rfl (fun ls hl => ?_)
      refine mx_loop (β := Nat × (Nat → Nat → Int32)) (fun n9 (bb9 : Nat × (Nat → Nat → Int32)) H locs ls => (fun (x9 : Nat) (v8 : Nat → Nat → Int32) => n9 = i - x9 ∧ (x9 ≤ i ∧ mQT v v8 (v 4 0)) ∧ mE G (mA ad (Sy cy ad cn ck v o) s.heap.size) s.heap ad (Sy cy ad cn ck v8 o) H locs ∧ lv_has ls 7 [(6, .int (nI x9)), (5, .int (mb (mHas (mVw b) (mVw b (300 + i) 1) x9 = false))), (4, .int (mVw b (300 + i) 1)), (3, .int (nI i)), (2, .int (nI (mDif (mVw b) i))), (0, .ref (ad 4)), (1, .int (nI 2))]) (bb9.1) (bb9.2)) ?_ (i - 0) (0, kv4) _ _ _ ⟨rfl, ⟨by omega, ⟨fun w h4 h10 h11 => ((kq5.1 w h4 h10 h11).trans (hq9.1 w h4 h10 h11)), kf8, (kf9.trans hm1.symm), (kf10.trans hm2.symm)⟩⟩, hE, lv_sub hl [0, 1, 2, 3, 4, 5, 6] rfl⟩
      intro n9 bb9 H locs ls hI ih11
      obtain ⟨x9, v8⟩ := bb9
      obtain ⟨hn12, ⟨hle2, hq8⟩, hE, hl⟩ := hI
      have hE : mE G (mA ad (Sy cy ad cn ck v o) s.heap.size) s.heap ad (Sy cy ad cn ck v8 o) H locs := hE
      have hl : lv_has ls 7 [(6, .int (nI x9)), (5, .int (mb (mHas (mVw b) (mVw b (300 + i) 1) x9 = false))), (4, .int (mVw b (300 + i) 1)), (3, .int (nI i)), (2, .int (nI (mDif (mVw b) i))), (0, .ref (ad 4)), (1, .int (nI 2))] := hl
      refine lv_iload hx hb dX3_counted_61 (lv_at hl 0 rfl) ?_
      refine lv_iload_n hx hb dX3_counted_63 rfl (lv_at hl 3 rfl) ?_
      refine mv_ge (tgt := 96) hx hb (by omega) (by omega) dX3_counted_64 (by decide) (fun c13 => ?_) (fun c13 => ?_)
      · skip
        have e8 : x9 = i := by omega
        have hl : lv_has ls 7 [(6, .int (nI i)), (5, .int (mb (mHas (mVw b) (mVw b (300 + i) 1) i = false))), (4, .int (mVw b (300 + i) 1)), (3, .int (nI i)), (2, .int (nI (mDif (mVw b) i))), (0, .ref (ad 4)), (1, .int (nI 2))] := by rw [e8] at hl; exact hl
        refine lv_iload_n hx hb dX3_counted_96 rfl (lv_at hl 4 rfl) ?_
        refine lv_iload hx hb dX3_counted_97 (lv_at hl 1 rfl) ?_
        refine lv_if_eq (tgt := 106) hx hb dX3_counted_99 (by decide) (fun c14 => ?_) (fun c14 => ?_)
        · skip
          have c14 := mb_0.mp c14
          refine lv_iconst (v := nI 0) hx hb dX3_counted_106 (by decide) ?_
          refine mv_iadd (z := nI ((mDif (mVw b) i) + 0)) hx hb (nI_add _ _) dX3_counted_107 ?_
          refine lv_istore_n (lv' := [(2, .int (nI ((mDif (mVw b) i) + 0))), (6, .int (nI i)), (5, .int (mb (mHas (mVw b) (mVw b (300 + i) 1) i = false))), (4, .int (mVw b (300 + i) 1)), (3, .int (nI i)), (0, .ref (ad 4)), (1, .int (nI 2))]) hx hb dX3_counted_108 rfl hl (by decide) rfl (fun ls hl => ?_)
          have e9 : mDif (mVw b) i + 0 = mDif (mVw b) (i + 1) := by simp only [mDif]; rw [if_pos (by cases h9 : mHas (mVw b) (mVw b (300 + i) 1) i; exact absurd h9 c14; rfl)]
          rw [e9] at hl
          refine lv_iinc (v := nI (i + 1)) (lv' := [(3, .int (nI (i + 1))), (2, .int (nI (mDif (mVw b) (i + 1)))), (6, .int (nI i)), (5, .int (mb (mHas (mVw b) (mVw b (300 + i) 1) i = false))), (4, .int (mVw b (300 + i) 1)), (0, .ref (ad 4)), (1, .int (nI 2))]) hx hb dX3_counted_109 hl (k := 4) rfl (nI_add _ _) (by decide) rfl (fun ls hl => ?_)
          refine lv_goto (tgt := 40) hx hb dX3_counted_112 (by decide) ?_
          exact ih1 (n - (i + 1)) (i + 1, v8) _ _ _ (by rw [hn2]; omega) ⟨rfl, ⟨by omega, ⟨fun w h4 h10 h11 => (hq8.1 w h4 h10 h11), hq8.2.1, ((hq8.2.2.1.trans hm1).trans hm1.symm), ((hq8.2.2.2.trans hm2).trans hm2.symm)⟩⟩, hE, lv_sub hl [0, 1, 5, 6] rfl⟩
        · skip
          have c14 := Classical.not_not.mp (fun h9 => c14 (mb_0.mpr h9))
          refine lv_iconst (v := nI 1) hx hb dX3_counted_102 (by decide) ?_
          refine lv_goto (tgt := 107) hx hb dX3_counted_103 (by decide) ?_
          refine mv_iadd (z := nI ((mDif (mVw b) i) + 1)) hx hb (nI_add _ _) dX3_counted_107 ?_
          refine lv_istore_n (lv' := [(2, .int (nI ((mDif (mVw b) i) + 1))), (6, .int (nI i)), (5, .int (mb (mHas (mVw b) (mVw b (300 + i) 1) i = false))), (4, .int (mVw b (300 + i) 1)), (3, .int (nI i)), (0, .ref (ad 4)), (1, .int (nI 2))]) hx hb dX3_counted_108 rfl hl (by decide) rfl (fun ls hl => ?_)
          have e9 : mDif (mVw b) i + 1 = mDif (mVw b) (i + 1) := by simp only [mDif]; rw [if_neg (by rw [c14]; exact Bool.false_ne_true)]
          rw [e9] at hl
          refine lv_iinc (v := nI (i + 1)) (lv' := [(3, .int (nI (i + 1))), (2, .int (nI (mDif (mVw b) (i + 1)))), (6, .int (nI i)), (5, .int (mb (mHas (mVw b) (mVw b (300 + i) 1) i = false))), (4, .int (mVw b (300 + i) 1)), (0, .ref (ad 4)), (1, .int (nI 2))]) hx hb dX3_counted_109 hl (k := 4) rfl (nI_add _ _) (by decide) rfl (fun ls hl => ?_)
          refine lv_goto (tgt := 40) hx hb dX3_counted_112 (by decide) ?_
          exact ih1 (n - (i + 1)) (i + 1, v8) _ _ _ (by rw [hn2]; omega) ⟨rfl, ⟨by omega, ⟨fun w h4 h10 h11 => (hq8.1 w h4 h10 h11), hq8.2.1, ((hq8.2.2.1.trans hm1).trans hm1.symm), ((hq8.2.2.2.trans hm2).trans hm2.symm)⟩⟩, hE, lv_sub hl [0, 1, 5, 6] rfl⟩
      · skip
        refine lv_iload hx hb dX3_counted_67 (lv_at hl 1 rfl) ?_
        refine lv_if_eq (tgt := 87) hx hb dX3_counted_69 (by decide) (fun c15 => ?_) (fun c15 => ?_)
        · skip
          have c15 := mb_0.mp c15
          refine lv_iconst (v := nI 0) hx hb dX3_counted_87 (by decide) ?_
          refine lv_istore (lv' := [(5, .int (nI 0)), (6, .int (nI x9)), (4, .int (mVw b (300 + i) 1)), (3, .int (nI i)), (2, .int (nI (mDif (mVw b) i))), (0, .ref (ad 4)), (1, .int (nI 2))]) hx hb dX3_counted_88 hl (by decide) rfl (fun ls hl => ?_)
          have e9 : mb (mHas (mVw b) (mVw b (300 + i) 1) (x9 + 1) = false) = nI 0 := mb_f (by simp only [mHas, Bool.or_eq_false_iff]; exact fun h9 => c15 h9.1)
          have hl : lv_has ls 7 [(5, .int (mb (mHas (mVw b) (mVw b (300 + i) 1) (x9 + 1) = false))), (6, .int (nI x9)), (4, .int (mVw b (300 + i) 1)), (3, .int (nI i)), (2, .int (nI (mDif (mVw b) i))), (0, .ref (ad 4)), (1, .int (nI 2))] := by rw [e9]; exact hl
          refine lv_iinc (v := nI (x9 + 1)) (lv' := [(6, .int (nI (x9 + 1))), (5, .int (mb (mHas (mVw b) (mVw b (300 + i) 1) (x9 + 1) = false))), (4, .int (mVw b (300 + i) 1)), (3, .int (nI i)), (2, .int (nI (mDif (mVw b) i))), (0, .ref (ad 4)), (1, .int (nI 2))]) hx hb dX3_counted_90 hl (k := 1) rfl (nI_add _ _) (by decide) rfl (fun ls hl => ?_)
          refine lv_goto (tgt := 61) hx hb dX3_counted_93 (by decide) ?_
          exact ih11 (i - (x9 + 1)) (x9 + 1, v8) _ _ _ (by rw [hn12]; omega) ⟨rfl, ⟨by omega, ⟨fun w h4 h10 h11 => (hq8.1 w h4 h10 h11), hq8.2.1, ((hq8.2.2.1.trans hm1).trans hm1.symm), ((hq8.2.2.2.trans hm2).trans hm2.symm)⟩⟩, hE, lv_sub hl [0, 1, 2, 3, 4, 5, 6] rfl⟩
        · skip
          have c15 := Classical.not_not.mp (fun h9 => c15 (mb_0.mpr h9))
          have h_x9 : x9 < n := by omega
          refine lv_aload_n hx hb dX3_counted_72 rfl (lv_at hl 5 rfl) ?_
          refine lv_iload hx hb dX3_counted_73 (lv_at hl 0 rfl) ?_
          refine va_calli (va_runV (As := [.int (nI x9)]) (rest := []) ⟨hx, hb, hml, hown, hts⟩ (c_X3_root l G cy ad cn ck n k v8 o hn hk _ (hq8.2.2.1.trans hm1) (hq8.2.2.2.trans hm2) x9 h_x9 ((hq8.1 5 (by decide) (by decide) (by decide)).trans h5)) (cwV 1 hts gX3_counted_X3_root rfl rfl rfl (by decide +kernel) ⟨Nat.le_of_ble_eq_true rfl, Nat.le_of_ble_eq_true rfl⟩) (mP_V (r := (RX3, TX3, 11)) hN hE (S_4f hq8.2.1 (hq8.2.2.1.trans hm1) (hq8.2.2.2.trans hm2) rfl) rfl) rfl rfl hl.1 rfl (lv_room (Nat.le_of_ble_eq_true rfl)) dX3_counted_75 ⟨Nat.le_of_ble_eq_true rfl, Nat.le_of_ble_eq_true rfl⟩) hE.2.2.2 (fun q _ h => mE_A hE q h) (mE_A hE) (fun r uq tq H locs ht hvm hw hB hz1 hk1 hS => ?_)
          obtain ⟨rfl, kv16, rfl, kq17⟩ := hw
          have hE : mE G (mA ad (Sy cy ad cn ck v o) s.heap.size) s.heap ad (Sy cy ad cn ck kv16 o) H locs := mE_call hE hB ht hS
          have ke18 : kv16 5 = b 5 := (kq17.1 5 (by decide) (by decide) (by decide)).trans ((hq8.1 5 (by decide) (by decide) (by decide)).trans h5)
          have ke19 : kv16 6 = b 6 := (kq17.1 6 (by decide) (by decide) (by decide)).trans ((hq8.1 6 (by decide) (by decide) (by decide)).trans h6)
          have kf20 : kv16 4 0 = v 4 0 := (kq17.2.1).trans hq8.2.1
          have kf21 : kv16 4 1 = nI n := (kq17.2.2.1).trans (hq8.2.2.1.trans hm1)
          have kf22 : kv16 4 2 = nI k := (kq17.2.2.2).trans (hq8.2.2.2.trans hm2)
          rw [show mS (fun d => (b 5) (16 * x9 + d)) 1 = mVw b (300 + x9) 1 from (mVw_s (by omega)).symm]
          refine lv_iload hx hb dX3_counted_78 (lv_at hl 2 rfl) ?_
          refine lv_icmp_eq (tgt := 87) hx hb dX3_counted_80 (by decide) (fun c23 => ?_) (fun c23 => ?_)
          · skip
            refine lv_iconst (v := nI 0) hx hb dX3_counted_87 (by decide) ?_
            refine lv_istore (lv' := [(5, .int (nI 0)), (6, .int (nI x9)), (4, .int (mVw b (300 + i) 1)), (3, .int (nI i)), (2, .int (nI (mDif (mVw b) i))), (0, .ref (ad 4)), (1, .int (nI 2))]) hx hb dX3_counted_88 hl (by decide) rfl (fun ls hl => ?_)
            have e9 : mb (mHas (mVw b) (mVw b (300 + i) 1) (x9 + 1) = false) = nI 0 := mb_f (by simp only [mHas, Bool.or_eq_false_iff, decide_eq_false_iff_not]; exact fun h9 => h9.2 c23)
            have hl : lv_has ls 7 [(5, .int (mb (mHas (mVw b) (mVw b (300 + i) 1) (x9 + 1) = false))), (6, .int (nI x9)), (4, .int (mVw b (300 + i) 1)), (3, .int (nI i)), (2, .int (nI (mDif (mVw b) i))), (0, .ref (ad 4)), (1, .int (nI 2))] := by rw [e9]; exact hl
            refine lv_iinc (v := nI (x9 + 1)) (lv' := [(6, .int (nI (x9 + 1))), (5, .int (mb (mHas (mVw b) (mVw b (300 + i) 1) (x9 + 1) = false))), (4, .int (mVw b (300 + i) 1)), (3, .int (nI i)), (2, .int (nI (mDif (mVw b) i))), (0, .ref (ad 4)), (1, .int (nI 2))]) hx hb dX3_counted_90 hl (k := 1) rfl (nI_add _ _) (by decide) rfl (fun ls hl => ?_)
            refine lv_goto (tgt := 61) hx hb dX3_counted_93 (by decide) ?_
            exact ih11 (i - (x9 + 1)) (x9 + 1, kv16) _ _ _ (by rw [hn12]; omega) ⟨rfl, ⟨by omega, ⟨fun w h4 h10 h11 => ((kq17.1 w h4 h10 h11).trans (hq8.1 w h4 h10 h11)), kf20, (kf21.trans hm1.symm), (kf22.trans hm2.symm)⟩⟩, hE, lv_sub hl [0, 1, 2, 3, 4, 5, 6] rfl⟩
          · skip
            refine lv_iconst (v := nI 1) hx hb dX3_counted_83 (by decide) ?_
            refine lv_goto (tgt := 88) hx hb dX3_counted_84 (by decide) ?_
            refine lv_istore (lv' := [(5, .int (nI 1)), (6, .int (nI x9)), (4, .int (mVw b (300 + i) 1)), (3, .int (nI i)), (2, .int (nI (mDif (mVw b) i))), (0, .ref (ad 4)), (1, .int (nI 2))]) hx hb dX3_counted_88 hl (by decide) rfl (fun ls hl => ?_)
            have e9 : mb (mHas (mVw b) (mVw b (300 + i) 1) (x9 + 1) = false) = nI 1 := mb_t (by simp only [mHas, c15, Bool.false_or, decide_eq_false_iff_not]; exact c23)
            have hl : lv_has ls 7 [(5, .int (mb (mHas (mVw b) (mVw b (300 + i) 1) (x9 + 1) = false))), (6, .int (nI x9)), (4, .int (mVw b (300 + i) 1)), (3, .int (nI i)), (2, .int (nI (mDif (mVw b) i))), (0, .ref (ad 4)), (1, .int (nI 2))] := by rw [e9]; exact hl
            refine lv_iinc (v := nI (x9 + 1)) (lv' := [(6, .int (nI (x9 + 1))), (5, .int (mb (mHas (mVw b) (mVw b (300 + i) 1) (x9 + 1) = false))), (4, .int (mVw b (300 + i) 1)), (3, .int (nI i)), (2, .int (nI (mDif (mVw b) i))), (0, .ref (ad 4)), (1, .int (nI 2))]) hx hb dX3_counted_90 hl (k := 1) rfl (nI_add _ _) (by decide) rfl (fun ls hl => ?_)
            refine lv_goto (tgt := 61) hx hb dX3_counted_93 (by decide) ?_
            exact ih11 (i - (x9 + 1)) (x9 + 1, kv16) _ _ _ (by rw [hn12]; omega) ⟨rfl, ⟨by omega, ⟨fun w h4 h10 h11 => ((kq17.1 w h4 h10 h11).trans (hq8.1 w h4 h10 h11)), kf20, (kf21.trans hm1.symm), (kf22.trans hm2.symm)⟩⟩, hE, lv_sub hl [0, 1, 2, 3, 4, 5, 6] rfl⟩
  · skip
    have hl : lv_has ls 7 [(2, .int (nI 0)), (0, .ref (ad 4)), (1, .int (nI 3))] := hl
    refine lv_tableOut (tgt := 117) hx hb dX3_counted_3 (Or.inr (by decide)) (by decide) ?_
    refine lv_iconst (v := nI 0) hx hb dX3_counted_117 (by decide) ?_
    refine lv_istore_n (lv' := [(3, .int (nI 0)), (2, .int (nI 0)), (0, .ref (ad 4)), (1, .int (nI 3))]) hx hb dX3_counted_118 rfl hl (by decide) rfl (fun ls hl => ?_)
    refine mx_loop (β := Nat) (fun n9 (i : Nat) H locs ls => n9 = n - i ∧ (i ≤ n) ∧ mE G (mA ad (Sy cy ad cn ck v o) s.heap.size) s.heap ad (Sy cy ad cn ck v o) H locs ∧ lv_has ls 7 [(3, .int (nI i)), (2, .int (mChs (mVw b) i)), (0, .ref (ad 4)), (1, .int (nI 3))]) ?_ (n - 0) (0) _ _ _ ⟨rfl, (by omega), hE, lv_sub hl [0, 1, 2, 3] rfl⟩
    intro n9 i H locs ls hI ih24
    obtain ⟨hn25, hle, hE, hl⟩ := hI
    have hE : mE G (mA ad (Sy cy ad cn ck v o) s.heap.size) s.heap ad (Sy cy ad cn ck v o) H locs := hE
    have hl : lv_has ls 7 [(3, .int (nI i)), (2, .int (mChs (mVw b) i)), (0, .ref (ad 4)), (1, .int (nI 3))] := hl
    refine lv_iload_n hx hb dX3_counted_119 rfl (lv_at hl 0 rfl) ?_
    refine lv_aload_n hx hb dX3_counted_120 rfl (lv_at hl 2 rfl) ?_
    refine va_get (D := G) (ci := 3) (v := .int (nI n)) (C := RX3) (T := TX3) (N := 11) hx hb hts hiX3 hown hN.1 (mE_P1 hE (S_4f rfl hm1 hm2 rfl)) 0 rfl rfl 1 (by decide) (hts (.fieldLink RX3 35 "SealedCupboardsModel" "cupboards" "I") (by decide +kernel)) (fun _ h9 => h9) rfl dX3_counted_121 ?_
    refine mv_ge (tgt := 142) hx hb (by omega) (by omega) dX3_counted_124 (by decide) (fun c26 => ?_) (fun c26 => ?_)
    · skip
      refine lv_iload_n hx hb dX3_counted_142 rfl (lv_at hl 1 rfl) ?_
      exact mx_iret hx hb hr hE hlocks ⟨by rw [show i = n by omega]; rfl, ⟨v, rfl, fun w h4 h10 h11 => rfl, rfl, rfl, rfl⟩⟩ dX3_counted_143
    · skip
      have h_i : i < n := c26
      refine lv_iload_n hx hb dX3_counted_127 rfl (lv_at hl 1 rfl) ?_
      refine lv_aload_n hx hb dX3_counted_128 rfl (lv_at hl 2 rfl) ?_
      refine va_get (D := G) (ci := 3) (v := .ref (ad 6)) (C := RX3) (T := TX3) (N := 11) hx hb hts hiX3 hown hN.1 (mE_P1 hE (S_4f rfl hm1 hm2 rfl)) 0 rfl rfl 4 (by decide) (hts (.fieldLink RX3 13 "SealedCupboardsModel" "changes" "[I") (by decide +kernel)) (fun _ h9 => h9) rfl dX3_counted_129 ?_
      refine lv_iload_n hx hb dX3_counted_132 rfl (lv_at hl 0 rfl) ?_
      refine mx_iald hx hb hN hE (S_6e h6) (j := i) rfl (by omega) (by decide) dX3_counted_133 ?_
      refine mv_iadd (z := (mChs (mVw b) i) + (b 6 i)) hx hb rfl dX3_counted_134 ?_
      refine lv_istore_n (lv' := [(2, .int ((mChs (mVw b) i) + (b 6 i))), (3, .int (nI i)), (0, .ref (ad 4)), (1, .int (nI 3))]) hx hb dX3_counted_135 rfl hl (by decide) rfl (fun ls hl => ?_)
      have e9 : mChs (mVw b) i + b 6 i = mChs (mVw b) (i + 1) := by simp only [mChs]; rw [mVw_c (show i < 100 by omega)]
      rw [e9] at hl
      refine lv_iinc (v := nI (i + 1)) (lv' := [(3, .int (nI (i + 1))), (2, .int (mChs (mVw b) (i + 1))), (0, .ref (ad 4)), (1, .int (nI 3))]) hx hb dX3_counted_136 hl (k := 1) rfl (nI_add _ _) (by decide) rfl (fun ls hl => ?_)
      refine lv_goto (tgt := 119) hx hb dX3_counted_139 (by decide) ?_
      exact ih24 (n - (i + 1)) (i + 1) _ _ _ (by rw [hn25]; omega) ⟨rfl, (by omega), hE, lv_sub hl [0, 1, 2, 3] rfl⟩
