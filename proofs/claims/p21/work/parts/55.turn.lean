set_option maxHeartbeats 8000000 in
set_option maxRecDepth 100000 in
/-- the law lays by what the seals tell -/
theorem s1 {p : Program} {l : Launch} {e : Env} {s : State} {m : MethodId} {below : List Frame} {meth : Method} {c : Code} {Q : State → Prop} {b : Nat} {G : va_G} {cy : Nat → ClassId} (hx : p.tables.exec = Jvm.exec) (hb : c.code = cL_law) (hml : c.maxLocals = 17) (hown : s.vm.findClass RL = some m.cls) (hts : ∀ w ∈ wsL_law, w.before #[Value.ref b] s = true) (hN : mN G cy (lA s) s) {ad : Nat → Nat} {n k : Nat} {v u : Nat → Nat → Int32} {C cs ms : Nat → Nat} {T : Nat} (hJ : jV n k v u C cs ms T) (hn0 : 1 ≤ n) {L : Nat} {xs : Nat → Int32} (hL : L ≤ 260) (hX : va_X b L xs s s.heap) (hbl : b < s.heap.size) {tm : Nat} (htm : tm < 20) {H : Heap} {locs : List Loc} {ls : Array Slot} {cells slots : Nat} (hc9 : cells + 21 ≤ 667787) (hs9 : slots + 80 ≤ 7098410) (hE : mE G (lA s) s.heap ad (Sy cy ad n k v (Si cy ad n k u jN0)) H locs) (hl : lv_has ls 17 [(3, .int (nI tm)), (2, .ref (ad 4)), (1, .ref (ad 0)), (0, .ref b)]) (kk : ∀ (H : Heap) (locs : List Loc) (ls : Array Slot) (ad' : Nat → Nat) (xv : Int32) (g : Nat → Nat → Int32), (∀ j, j < k → ∀ w, w < 3 → g j w = v (400 + j) w) → mE G (lA s) s.heap ad' (Sy cy ad' n k v (Si cy ad' n k u (jWas cy ad' k g))) H locs → lv_has ls 17 [(6, .ref (ad' 70)), (5, .int (nI k)), (4, .int xv), (3, .int (nI tm)), (2, .ref (ad' 4)), (1, .ref (ad' 0)), (0, .ref b)] → W p l e room_1 s m #[Value.ref b] below meth c H locs (cells + 21) (slots + 80) Q (F0 m 107 ls [])) : W p l e room_1 s m #[Value.ref b] below meth c H locs cells slots Q (F0 m 28 ls []) := by
  have hn := hJ.1
  have hk := hJ.2.1
  have hN6 := hJ.1
  have hbA : ¬ lA s b := Nat.not_le.mpr hbl
  refine lv_aload_n hx hb dL_law_28 rfl (lv_at hl 3 rfl) ?_
  refine lv_iload_n hx hb dL_law_29 rfl (lv_at hl 0 rfl) ?_
  refine lv_bipush (v := nI 16) hx hb dL_law_30 (by decide) ?_
  refine mv_irem (z := nI (tm % 16)) hx hb (by decide) (pk_rem (by omega) (by omega) (by omega)) dL_law_32 ?_
  refine va_calli (va_runS (As := [.ref b, .int (nI (tm % 16))]) (rest := []) ⟨hx, hb, hml, hown, hts⟩ (c_L_cell l G cy ad (Sy cy ad n k v (Si cy ad n k u jN0)) _ b L xs hL (tm % 16) (by omega)) (va_cwS 2 hts gL_law_L_cell rfl rfl rfl (by decide +kernel) ⟨Nat.le_of_ble_eq_true rfl, Nat.le_of_ble_eq_true rfl⟩) (jX_S hN hE hX hbl hbA) rfl rfl hl.1 rfl (lv_room (Nat.le_of_ble_eq_true rfl)) dL_law_33 ⟨(by show _ ≤ 667787; omega), (by show _ ≤ 7098410; omega)⟩) hE.2.2.2 (fun q _ h => mE_A hE q h) (mE_A hE) (fun r uq tq H locs ht hvm hw hB hz1 hk1 hS => ?_)
  obtain ⟨rfl, rfl⟩ := hw
  have hE : mE G (lA s) s.heap ad (Sy cy ad n k v (Si cy ad n k u jN0)) H locs := mE_call hE hB ht hS
  refine lv_sipush (v := nI 227) hx hb dL_law_36 (by decide) ?_
  refine lv_iload_n hx hb dL_law_39 rfl (lv_at hl 0 rfl) ?_
  refine mv_imul (z := nI (227 * tm)) hx hb (pk_mul _ _) dL_law_40 ?_
  refine mv_iadd (z := (jCell L xs (tm % 16)) + (nI (227 * tm))) hx hb rfl dL_law_41 ?_
  obtain ⟨xv, hxv⟩ : ∃ y99, y99 = (jCell L xs (tm % 16)) + (nI (227 * tm)) := ⟨_, rfl⟩
  rw [← hxv]
  refine lv_istore (lv' := [(4, .int xv), (3, .int (nI tm)), (2, .ref (ad 4)), (1, .ref (ad 0)), (0, .ref b)]) hx hb dL_law_42 hl (by decide) rfl (fun ls hl => ?_)
  refine lv_aload_n hx hb dL_law_44 rfl (lv_at hl 3 rfl) ?_
  refine lv_iconst (v := nI 1) hx hb dL_law_45 (by decide) ?_
  refine va_calli (va_runV (As := [.int (nI 1)]) (rest := []) ⟨hx, hb, hml, hown, hts⟩ (c_X2_count l G cy ad n k v (Si cy ad n k u jN0) hn hk _ 1 (by decide)) (cwV 1 hts gL_law_X2_count rfl rfl rfl (by decide +kernel) ⟨Nat.le_of_ble_eq_true rfl, Nat.le_of_ble_eq_true rfl⟩) (mP_V (r := (RX2, TX2, 5)) hN hE S_0 rfl) rfl rfl hl.1 rfl (lv_room (Nat.le_of_ble_eq_true rfl)) dL_law_46 ⟨(by show _ ≤ 667787; omega), (by show _ ≤ 7098410; omega)⟩) hE.2.2.2 (fun q _ h => mE_A hE q h) (mE_A hE) (fun r uq tq H locs ht hvm hw hB hz1 hk1 hS => ?_)
  obtain ⟨rfl, rfl⟩ := hw
  have hE : mE G (lA s) s.heap ad (Sy cy ad n k v (Si cy ad n k u jN0)) H locs := mE_call hE hB ht hS
  rw [show mCount v n k 1 = nI k from rfl]
  refine lv_istore (lv' := [(5, .int (nI k)), (4, .int xv), (3, .int (nI tm)), (2, .ref (ad 4)), (1, .ref (ad 0)), (0, .ref b)]) hx hb dL_law_49 hl (by decide) rfl (fun ls hl => ?_)
  refine lv_iload hx hb dL_law_51 (lv_at hl 0 rfl) ?_
  refine lv_iconst (v := nI 3) hx hb dL_law_53 (by decide) ?_
  refine mx_mna hx hb hown (hts (.classLink RL 77 "[[I") (by decide +kernel)) (hts (.arrayClass .int) (by decide +kernel)) hN hE 70 k (fun j h1 h2 => (S_r (by omega) (by omega)).trans (Q_r (by unfold jIs; omega))) (by omega) rfl rfl (by show _ ≤ 667787; omega) (by show _ ≤ 7098410; omega) dL_law_54 (fun ad1 H ha1 hE => ?_)
  rw [jWas_mm hn hk (fun j hj => ha1 j (by omega))] at hE
  rw [← ha1 0 (by omega), ← ha1 4 (by omega)] at hl
  refine W.widen (k := cells + 21) (n := slots + 80) (by omega) (by omega) ?_
  refine lv_astore (lv' := [(6, .ref (ad1 70)), (5, .int (nI k)), (4, .int xv), (3, .int (nI tm)), (2, .ref (ad1 4)), (1, .ref (ad1 0)), (0, .ref b)]) hx hb dL_law_58 hl (by decide) rfl (fun ls hl => ?_)
  refine lv_iconst (v := nI 0) hx hb dL_law_60 (by decide) ?_
  refine lv_istore (lv' := [(7, .int (nI 0)), (6, .ref (ad1 70)), (5, .int (nI k)), (4, .int xv), (3, .int (nI tm)), (2, .ref (ad1 4)), (1, .ref (ad1 0)), (0, .ref b)]) hx hb dL_law_61 hl (by decide) rfl (fun ls hl => ?_)
  refine mx_loop (β := Nat × (Nat → Nat → Int32)) (fun n9 (bb9 : Nat × (Nat → Nat → Int32)) H locs ls => (fun (j8 : Nat) (g : Nat → Nat → Int32) => n9 = k - j8 ∧ (j8 ≤ k ∧ ∀ j, j < j8 → ∀ w, w < 3 → g j w = v (400 + j) w) ∧ mE G (lA s) s.heap ad1 (Sy cy ad1 n k v (Si cy ad1 n k u (jWas cy ad1 k g))) H locs ∧ lv_has ls 17 [(7, .int (nI j8)), (6, .ref (ad1 70)), (5, .int (nI k)), (4, .int xv), (3, .int (nI tm)), (2, .ref (ad1 4)), (1, .ref (ad1 0)), (0, .ref b)]) (bb9.1) (bb9.2)) ?_ (k - 0) (0, (fun _ _ => 0)) _ _ _ ⟨rfl, ⟨by omega, fun j hj => absurd hj (Nat.not_lt_zero j)⟩, hE, lv_sub hl [0, 1, 2, 3, 4, 5, 6, 7] rfl⟩
  intro n9 bb9 H locs ls hI ih1
  obtain ⟨j8, g⟩ := bb9
  obtain ⟨hn2, ⟨hj8, hga⟩, hE, hl⟩ := hI
  have hj8 : j8 ≤ k := hj8
  have hga : ∀ j, j < j8 → ∀ w, w < 3 → g j w = v (400 + j) w := hga
  have hE : mE G (lA s) s.heap ad1 (Sy cy ad1 n k v (Si cy ad1 n k u (jWas cy ad1 k g))) H locs := hE
  have hl : lv_has ls 17 [(7, .int (nI j8)), (6, .ref (ad1 70)), (5, .int (nI k)), (4, .int xv), (3, .int (nI tm)), (2, .ref (ad1 4)), (1, .ref (ad1 0)), (0, .ref b)] := hl
  refine lv_iload hx hb dL_law_63 (lv_at hl 0 rfl) ?_
  refine lv_iload hx hb dL_law_65 (lv_at hl 2 rfl) ?_
  refine mv_ge (tgt := 107) hx hb (by omega) (by omega) dL_law_67 (by decide) (fun c3 => ?_) (fun c3 => ?_)
  · skip
    have hgc : ∀ j, j < k → ∀ w, w < 3 → g j w = v (400 + j) w := fun j hj => hga j (by omega)
    exact kk _ _ _ ad1 xv g hgc hE (lv_sub hl [1, 2, 3, 4, 5, 6, 7] rfl)
  · skip
    have h_j8 : j8 < k := by omega
    refine lv_iconst (v := nI 0) hx hb dL_law_70 (by decide) ?_
    refine lv_istore (lv' := [(8, .int (nI 0)), (7, .int (nI j8)), (6, .ref (ad1 70)), (5, .int (nI k)), (4, .int xv), (3, .int (nI tm)), (2, .ref (ad1 4)), (1, .ref (ad1 0)), (0, .ref b)]) hx hb dL_law_71 hl (by decide) rfl (fun ls hl => ?_)
    refine mx_loop (β := Nat × (Nat → Nat → Int32)) (fun n9 (bb9 : Nat × (Nat → Nat → Int32)) H locs ls => (fun (w8 : Nat) (g : Nat → Nat → Int32) => n9 = 3 - w8 ∧ (w8 ≤ 3 ∧ (∀ j, j < j8 → ∀ w, w < 3 → g j w = v (400 + j) w) ∧ ∀ w, w < w8 → g j8 w = v (400 + j8) w) ∧ mE G (lA s) s.heap ad1 (Sy cy ad1 n k v (Si cy ad1 n k u (jWas cy ad1 k g))) H locs ∧ lv_has ls 17 [(8, .int (nI w8)), (7, .int (nI j8)), (6, .ref (ad1 70)), (5, .int (nI k)), (4, .int xv), (3, .int (nI tm)), (2, .ref (ad1 4)), (1, .ref (ad1 0)), (0, .ref b)]) (bb9.1) (bb9.2)) ?_ (3 - 0) (0, g) _ _ _ ⟨rfl, ⟨by omega, hga, fun w hw => absurd hw (Nat.not_lt_zero w)⟩, hE, lv_sub hl [0, 1, 2, 3, 4, 5, 6, 7, 8] rfl⟩
    intro n9 bb9 H locs ls hI ih4
    obtain ⟨w8, g⟩ := bb9
    obtain ⟨hn5, ⟨hw8, hga, hgb⟩, hE, hl⟩ := hI
    have hw8 : w8 ≤ 3 := hw8
    have hga : ∀ j, j < j8 → ∀ w, w < 3 → g j w = v (400 + j) w := hga
    have hgb : ∀ w, w < w8 → g j8 w = v (400 + j8) w := hgb
    have hE : mE G (lA s) s.heap ad1 (Sy cy ad1 n k v (Si cy ad1 n k u (jWas cy ad1 k g))) H locs := hE
    have hl : lv_has ls 17 [(8, .int (nI w8)), (7, .int (nI j8)), (6, .ref (ad1 70)), (5, .int (nI k)), (4, .int xv), (3, .int (nI tm)), (2, .ref (ad1 4)), (1, .ref (ad1 0)), (0, .ref b)] := hl
    refine lv_iload hx hb dL_law_73 (lv_at hl 0 rfl) ?_
    refine lv_iconst (v := nI 3) hx hb dL_law_75 (by decide) ?_
    refine mv_ge (tgt := 101) hx hb (by omega) (by omega) dL_law_76 (by decide) (fun c6 => ?_) (fun c6 => ?_)
    · skip
      refine lv_iinc (v := nI (j8 + 1)) (lv' := [(7, .int (nI (j8 + 1))), (8, .int (nI w8)), (6, .ref (ad1 70)), (5, .int (nI k)), (4, .int xv), (3, .int (nI tm)), (2, .ref (ad1 4)), (1, .ref (ad1 0)), (0, .ref b)]) hx hb dL_law_101 hl (k := 1) rfl (nI_add _ _) (by decide) rfl (fun ls hl => ?_)
      refine lv_goto (tgt := 63) hx hb dL_law_104 (by decide) ?_
      exact ih1 (k - (j8 + 1)) (j8 + 1, g) _ _ _ (by rw [hn2]; omega) ⟨rfl, ⟨by omega, fun j hj w hw => if h9 : j = j8 then by rw [h9]; exact hgb w (by omega) else hga j (by omega) w hw⟩, hE, lv_sub hl [0, 2, 3, 4, 5, 6, 7, 8] rfl⟩
    · skip
      have h_w8 : w8 < 3 := by omega
      refine lv_aload hx hb dL_law_79 (lv_at hl 2 rfl) ?_
      refine lv_iload hx hb dL_law_81 (lv_at hl 1 rfl) ?_
      refine mx_ralda hx hb hN hE ((S_r (by omega) (by omega)).trans ((Q_r (by unfold jIs; omega)).trans jWas_70)) (j := j8) rfl (by omega) (by omega) (jWas_at h_j8) dL_law_83 ?_
      refine lv_iload hx hb dL_law_84 (lv_at hl 0 rfl) ?_
      refine lv_aload_n hx hb dL_law_86 rfl (lv_at hl 7 rfl) ?_
      refine lv_iload hx hb dL_law_87 (lv_at hl 1 rfl) ?_
      refine lv_iload hx hb dL_law_89 (lv_at hl 0 rfl) ?_
      refine va_calli (va_runV (As := [.int (nI j8), .int (nI w8)]) (rest := [.int (nI w8), .ref (ad1 (71 + j8))]) ⟨hx, hb, hml, hown, hts⟩ (c_X2_about l G cy ad1 n k v (Si cy ad1 n k u (jWas cy ad1 k g)) hn hk _ j8 h_j8 w8 (by omega) (cs j8) (jV_cs hJ h_j8) (jV_0 hJ h_j8)) (cwV 2 hts gL_law_X2_about rfl rfl rfl (by decide +kernel) ⟨Nat.le_of_ble_eq_true rfl, Nat.le_of_ble_eq_true rfl⟩) (mP_V (r := (RX2, TX2, 5)) hN hE S_0 rfl) rfl rfl hl.1 rfl (lv_room (Nat.le_of_ble_eq_true rfl)) dL_law_91 ⟨(by show _ ≤ 667787; omega), (by show _ ≤ 7098410; omega)⟩) hE.2.2.2 (fun q _ h => mE_A hE q h) (mE_A hE) (fun r uq tq H locs ht hvm hw hB hz1 hk1 hS => ?_)
      obtain ⟨rfl, rfl⟩ := hw
      have hE : mE G (lA s) s.heap ad1 (Sy cy ad1 n k v (Si cy ad1 n k u (jWas cy ad1 k g))) H locs := mE_call hE hB ht hS
      rw [jAb3 hJ h_j8 h_w8]
      refine mx_iast hx hb hN hE ((S_r (by omega) (by omega)).trans ((Q_r (by unfold jIs; omega)).trans (jWas_r h_j8))) (j := w8) rfl (by omega) (by decide) dL_law_94 (fun H locs hE => ?_)
      have hE : mE G (lA s) s.heap ad1 (Sy cy ad1 n k v (Si cy ad1 n k u (jWas cy ad1 k (va_up g j8 (upd (g j8) w8 (v (400 + j8) w8)))))) H locs := by rw [S_ux (by omega) (by omega), Q_ux (by unfold jIs; omega), jWas_up h_j8] at hE; exact hE
      refine lv_iinc (v := nI (w8 + 1)) (lv' := [(8, .int (nI (w8 + 1))), (7, .int (nI j8)), (6, .ref (ad1 70)), (5, .int (nI k)), (4, .int xv), (3, .int (nI tm)), (2, .ref (ad1 4)), (1, .ref (ad1 0)), (0, .ref b)]) hx hb dL_law_95 hl (k := 0) rfl (nI_add _ _) (by decide) rfl (fun ls hl => ?_)
      refine lv_goto (tgt := 73) hx hb dL_law_98 (by decide) ?_
      exact ih4 (3 - (w8 + 1)) (w8 + 1, (va_up g j8 (upd (g j8) w8 (v (400 + j8) w8)))) _ _ _ (by rw [hn5]; omega) ⟨rfl, ⟨by omega, fun j hj w hw => by (try dsimp only); rw [va_up_n _ _ (by omega)]; exact hga j hj w hw, fun w hw => if h9 : w = w8 then by (try dsimp only); rw [h9, va_up_s, upd_s] else by (try dsimp only); rw [va_up_s, upd_n _ _ h9]; exact hgb w (by omega)⟩, hE, lv_sub hl [0, 1, 2, 3, 4, 5, 6, 7, 8] rfl⟩

theorem jLe_tr {n k n1 k1 n2 k2 : Nat} {v v1 v2 : Nat → Nat → Int32} {C C1 C2 : Nat → Nat} (h1 : jLe n k v C n1 k1 v1 C1) (h2 : jLe n1 k1 v1 C1 n2 k2 v2 C2) : jLe n k v C n2 k2 v2 C2 := by
  obtain ⟨a1, a2, a3, a4, a5⟩ := h1
  obtain ⟨b1, b2, b3, b4, b5⟩ := h2
  exact ⟨by omega, by omega, by omega, fun i hi => Nat.le_trans (a4 i hi) (b4 i (by omega)), fun j hj => (b5 j (by omega)).trans (a5 j hj)⟩

set_option maxHeartbeats 8000000 in
set_option maxRecDepth 100000 in
/-- two acts -/
theorem s2 {p : Program} {l : Launch} {e : Env} {s : State} {m : MethodId} {below : List Frame} {meth : Method} {c : Code} {Q : State → Prop} {b : Nat} {G : va_G} {cy : Nat → ClassId} (hx : p.tables.exec = Jvm.exec) (hb : c.code = cL_law) (hml : c.maxLocals = 17) (hown : s.vm.findClass RL = some m.cls) (hts : ∀ w ∈ wsL_law, w.before #[Value.ref b] s = true) (hN : mN G cy (lA s) s) {x : mC} (hx70 : ∀ w, w < 70 → x w = none) {ad : Nat → Nat} {n k : Nat} {v u : Nat → Nat → Int32} {C cs ms : Nat → Nat} {T : Nat} (hJ : jV n k v u C cs ms T) (hn0 : 1 ≤ n) {xv : Int32} {tm : Nat} (hT : T ≤ 100000) {H : Heap} {locs : List Loc} {ls : Array Slot} {cells slots : Nat} (hc9 : cells + 12 ≤ 667787) (hs9 : slots + 200 ≤ 7098410) (hE : mE G (lA s) s.heap ad (Sy cy ad n k v (Si cy ad n k u x)) H locs) (hl : lv_has ls 17 [(6, .ref (ad 70)), (5, .int (nI k)), (4, .int xv), (3, .int (nI tm)), (2, .ref (ad 4)), (1, .ref (ad 0)), (0, .ref b)]) (kk : ∀ (H : Heap) (locs : List Loc) (ls : Array Slot) (ad' : Nat → Nat) (n' k' : Nat) (v' u' : Nat → Nat → Int32) (C' cs' ms' : Nat → Nat), (∀ j, j = 0 ∨ j = 4 ∨ (70 ≤ j ∧ j < 100) → ad' j = ad j) → jV n' k' v' u' C' cs' ms' (T + 32) → jLe n k v C n' k' v' C' → mE G (lA s) s.heap ad' (Sy cy ad' n' k' v' (Si cy ad' n' k' u' x)) H locs → lv_has ls 17 [(7, .int (nI (jSum C n))), (6, .ref (ad' 70)), (5, .int (nI k)), (4, .int xv), (3, .int (nI tm)), (2, .ref (ad' 4)), (1, .ref (ad' 0)), (0, .ref b)] → W p l e room_1 s m #[Value.ref b] below meth c H locs (cells + 12) (slots + 200) Q (F0 m 153 ls [])) : W p l e room_1 s m #[Value.ref b] below meth c H locs cells slots Q (F0 m 107 ls []) := by
  have hn := hJ.1
  have hk := hJ.2.1
  have hN6 := hJ.1
  have hsb := jSum_bd hJ hT
  refine lv_aload_n hx hb dL_law_107 rfl (lv_at hl 5 rfl) ?_
  refine lv_iconst (v := nI 3) hx hb dL_law_108 (by decide) ?_
  refine va_calli (va_runV (As := [.int (nI 3)]) (rest := []) ⟨hx, hb, hml, hown, hts⟩ (c_X2_count l G cy ad n k v (Si cy ad n k u x) hn hk _ 3 (by decide)) (cwV 1 hts gL_law_X2_count rfl rfl rfl (by decide +kernel) ⟨Nat.le_of_ble_eq_true rfl, Nat.le_of_ble_eq_true rfl⟩) (mP_V (r := (RX2, TX2, 5)) hN hE S_0 rfl) rfl rfl hl.1 rfl (lv_room (Nat.le_of_ble_eq_true rfl)) dL_law_109 ⟨(by show _ ≤ 667787; omega), (by show _ ≤ 7098410; omega)⟩) hE.2.2.2 (fun q _ h => mE_A hE q h) (mE_A hE) (fun r uq tq H locs ht hvm hw hB hz1 hk1 hS => ?_)
  obtain ⟨rfl, rfl⟩ := hw
  have hE : mE G (lA s) s.heap ad (Sy cy ad n k v (Si cy ad n k u x)) H locs := mE_call hE hB ht hS
  rw [show mCount v n k 3 = mChs v n from rfl, jChs hJ n (Nat.le_refl _)]
  refine lv_istore (lv' := [(7, .int (nI (jSum C n))), (6, .ref (ad 70)), (5, .int (nI k)), (4, .int xv), (3, .int (nI tm)), (2, .ref (ad 4)), (1, .ref (ad 0)), (0, .ref b)]) hx hb dL_law_112 hl (by decide) rfl (fun ls hl => ?_)
  refine lv_iconst (v := nI 0) hx hb dL_law_114 (by decide) ?_
  refine lv_istore (lv' := [(8, .int (nI 0)), (7, .int (nI (jSum C n))), (6, .ref (ad 70)), (5, .int (nI k)), (4, .int xv), (3, .int (nI tm)), (2, .ref (ad 4)), (1, .ref (ad 0)), (0, .ref b)]) hx hb dL_law_115 hl (by decide) rfl (fun ls hl => ?_)
  refine W.widen (k := cells + 6 * (2 - (2 - 0))) (n := slots + 100 * (2 - (2 - 0))) (by omega) (by omega) ?_
  refine mx_loopc (β := Nat × (Nat → Nat) × Nat × Nat × (Nat → Nat → Int32) × (Nat → Nat → Int32)) 2 cells 6 slots 100 (fun n9 (bb9 : Nat × (Nat → Nat) × Nat × Nat × (Nat → Nat → Int32) × (Nat → Nat → Int32)) H locs ls => (fun (q : Nat) (ad9 : Nat → Nat) (n2 : Nat) (k2 : Nat) (v2 : Nat → Nat → Int32) (u2 : Nat → Nat → Int32) => n9 = 2 - q ∧ (q ≤ 2 ∧ (∀ j, j = 0 ∨ j = 4 ∨ (70 ≤ j ∧ j < 100) → ad9 j = ad j) ∧ ∃ C2 cs2 ms2 : Nat → Nat, jV n2 k2 v2 u2 C2 cs2 ms2 (T + 16 * q) ∧ jLe n k v C n2 k2 v2 C2) ∧ mE G (lA s) s.heap ad9 (Sy cy ad9 n2 k2 v2 (Si cy ad9 n2 k2 u2 x)) H locs ∧ lv_has ls 17 [(8, .int (nI q)), (7, .int (nI (jSum C n))), (6, .ref (ad9 70)), (5, .int (nI k)), (4, .int xv), (3, .int (nI tm)), (2, .ref (ad9 4)), (1, .ref (ad9 0)), (0, .ref b)]) (bb9.1) (bb9.2.1) (bb9.2.2.1) (bb9.2.2.2.1) (bb9.2.2.2.2.1) (bb9.2.2.2.2.2)) ?_ (2 - 0) (0, ad, n, k, v, u) _ _ _ ⟨rfl, ⟨by omega, fun _ _ => rfl, C, cs, ms, hJ, jLe_rf hn0⟩, hE, lv_sub hl [0, 1, 2, 3, 4, 5, 6, 7, 8] rfl⟩
  intro n9 bb9 H locs ls hI ih1
  obtain ⟨q, ad9, n2, k2, v2, u2⟩ := bb9
  obtain ⟨hn2, ⟨hq2, ha2, C2, cs2, ms2, hJ2, hle2⟩, hE, hl⟩ := hI
  have hq2 : q ≤ 2 := hq2
  have ha2 : ∀ j, j = 0 ∨ j = 4 ∨ (70 ≤ j ∧ j < 100) → ad9 j = ad j := ha2
  have hJ2 : jV n2 k2 v2 u2 C2 cs2 ms2 (T + 16 * q) := hJ2
  have hle2 : jLe n k v C n2 k2 v2 C2 := hle2
  have hE : mE G (lA s) s.heap ad9 (Sy cy ad9 n2 k2 v2 (Si cy ad9 n2 k2 u2 x)) H locs := hE
  have hl : lv_has ls 17 [(8, .int (nI q)), (7, .int (nI (jSum C n))), (6, .ref (ad9 70)), (5, .int (nI k)), (4, .int xv), (3, .int (nI tm)), (2, .ref (ad9 4)), (1, .ref (ad9 0)), (0, .ref b)] := hl
  refine lv_iload hx hb dL_law_117 (lv_at hl 0 rfl) ?_
  refine lv_iconst (v := nI 2) hx hb dL_law_119 (by decide) ?_
  refine mv_ge (tgt := 153) hx hb (by omega) (by omega) dL_law_120 (by decide) (fun c3 => ?_) (fun c3 => ?_)
  · skip
    refine W.widen (k := cells + 12) (n := slots + 200) (by omega) (by omega) ?_
    exact kk _ _ _ ad9 n2 k2 v2 u2 C2 cs2 ms2 ha2 (jV_T hJ2 (by omega)) hle2 hE (lv_sub hl [1, 2, 3, 4, 5, 6, 7, 8] rfl)
  · skip
    refine lv_aload_n hx hb dL_law_123 rfl (lv_at hl 7 rfl) ?_
    refine lv_aload_n hx hb dL_law_124 rfl (lv_at hl 6 rfl) ?_
    refine lv_iload hx hb dL_law_125 (lv_at hl 4 rfl) ?_
    refine lv_iconst (v := nI 2) hx hb dL_law_127 (by decide) ?_
    refine lv_iload hx hb dL_law_128 (lv_at hl 0 rfl) ?_
    refine mv_imul (z := nI (2 * q)) hx hb (pk_mul _ _) dL_law_130 ?_
    refine mv_ishr (z := xv >>> ((nI (2 * q)) &&& 31)) hx hb rfl dL_law_131 ?_
    refine lv_sipush (v := nI 151) hx hb dL_law_132 (by decide) ?_
    refine lv_iload hx hb dL_law_135 (lv_at hl 0 rfl) ?_
    refine mv_imul (z := nI (151 * q)) hx hb (pk_mul _ _) dL_law_137 ?_
    refine mv_iadd (z := (xv >>> ((nI (2 * q)) &&& 31)) + (nI (151 * q))) hx hb rfl dL_law_138 ?_
    refine va_calli (va_runS (As := [.ref (ad9 0), .ref (ad9 4), .int ((xv >>> ((nI (2 * q)) &&& 31)) + (nI (151 * q)))]) (rest := []) ⟨hx, hb, hml, hown, hts⟩ (c_L_act l G cy ad9 x hx70 n2 k2 v2 u2 C2 cs2 ms2 (T + 16 * q) hJ2 _ ((xv >>> ((nI (2 * q)) &&& 31)) + (nI (151 * q)))) (va_cwS 3 hts gL_law_L_act rfl rfl rfl (by decide +kernel) ⟨Nat.le_of_ble_eq_true rfl, Nat.le_of_ble_eq_true rfl⟩) (mP_S hN hE) rfl rfl hl.1 rfl (lv_room (Nat.le_of_ble_eq_true rfl)) dL_law_139 ⟨(by show _ ≤ 667787; omega), (by show _ ≤ 7098410; omega)⟩) hE.2.2.2 (fun q _ h => mE_A hE q h) (mE_A hE) (fun r uq tq H locs ht hvm hw hB hz1 hk1 hS => ?_)
    obtain ⟨hr1, ad3, n3, k3, v3, u3, C3, cs3, ms3, wt, wa3, hJ3, hle3⟩ := hw
    have hr1 : r = nI 1 := hr1
    subst hr1
    subst wt
    have hE : mE G (lA s) s.heap ad3 (Sy cy ad3 n3 k3 v3 (Si cy ad3 n3 k3 u3 x)) H locs := mE_call hE hB ht hS
    have wa3 : ∀ j, j = 0 ∨ j = 4 ∨ (70 ≤ j ∧ j < 100) → ad3 j = ad9 j := wa3
    rw [← wa3 0 (by decide), ← wa3 4 (by decide), ← wa3 70 (by decide)] at hl
    refine lv_if_ne (tgt := 147) hx hb dL_law_142 (by decide) (fun c4 => ?_) (fun c4 => ?_)
    · skip
      have c4 : ¬ 1 = 0 := fun h9 => c4 ((mz_eq (by omega)).mpr h9)
      refine lv_iinc (v := nI (q + 1)) (lv' := [(8, .int (nI (q + 1))), (7, .int (nI (jSum C n))), (6, .ref (ad3 70)), (5, .int (nI k)), (4, .int xv), (3, .int (nI tm)), (2, .ref (ad3 4)), (1, .ref (ad3 0)), (0, .ref b)]) hx hb dL_law_147 hl (k := 0) rfl (nI_add _ _) (by decide) rfl (fun ls hl => ?_)
      refine lv_goto (tgt := 117) hx hb dL_law_150 (by decide) ?_
      refine W.widen (k := cells + 6 * (2 - (2 - (q + 1)))) (n := slots + 100 * (2 - (2 - (q + 1)))) (by omega) (by omega) ?_
      exact ih1 (2 - (q + 1)) (q + 1, ad3, n3, k3, v3, u3) _ _ _ (by rw [hn2]; omega) ⟨rfl, ⟨by omega, fun j hj => (wa3 j hj).trans (ha2 j hj), C3, cs3, ms3, jV_T hJ3 (by omega), jLe_tr hle2 hle3⟩, hE, lv_sub hl [0, 1, 2, 3, 4, 5, 6, 7, 8] rfl⟩
    · skip
      have c4 := (mz_eq (by omega)).mp c4
      exfalso; omega

set_option maxHeartbeats 8000000 in
set_option maxRecDepth 100000 in
/-- changes and seals are no fewer -/
theorem s3 {p : Program} {l : Launch} {e : Env} {s : State} {m : MethodId} {below : List Frame} {meth : Method} {c : Code} {Q : State → Prop} {b : Nat} {G : va_G} {cy : Nat → ClassId} (hx : p.tables.exec = Jvm.exec) (hb : c.code = cL_law) (hml : c.maxLocals = 17) (hown : s.vm.findClass RL = some m.cls) (hts : ∀ w ∈ wsL_law, w.before #[Value.ref b] s = true) (hN : mN G cy (lA s) s) {ad : Nat → Nat} {n k : Nat} {v u : Nat → Nat → Int32} {C cs ms : Nat → Nat} {T : Nat} (hJ : jV n k v u C cs ms T) (hn0 : 1 ≤ n) {n0 k0 : Nat} {v0 : Nat → Nat → Int32} {C0 : Nat → Nat} (hle : jLe n0 k0 v0 C0 n k v C) (hk0 : k0 ≤ 20) {g : Nat → Nat → Int32} (hg : ∀ j, j < k0 → ∀ w, w < 3 → g j w = v0 (400 + j) w) {xv : Int32} {tm : Nat} (hT : T ≤ 100000) {H : Heap} {locs : List Loc} {ls : Array Slot} {cells slots : Nat} (hc9 : cells + 0 ≤ 667787) (hs9 : slots + 0 ≤ 7098410) (hE : mE G (lA s) s.heap ad (Sy cy ad n k v (Si cy ad n k u (jWas cy ad k0 g))) H locs) (hl : lv_has ls 17 [(7, .int (nI (jSum C0 n0))), (6, .ref (ad 70)), (5, .int (nI k0)), (4, .int xv), (3, .int (nI tm)), (2, .ref (ad 4)), (1, .ref (ad 0)), (0, .ref b)]) (kk : ∀ (H : Heap) (locs : List Loc) (ls : Array Slot), mE G (lA s) s.heap ad (Sy cy ad n k v (Si cy ad n k u jN0)) H locs → lv_has ls 17 [(4, .int xv), (3, .int (nI tm)), (2, .ref (ad 4)), (1, .ref (ad 0)), (0, .ref b)] → W p l e room_1 s m #[Value.ref b] below meth c H locs cells slots Q (F0 m 227 ls [])) : W p l e room_1 s m #[Value.ref b] below meth c H locs cells slots Q (F0 m 153 ls []) := by
  have hn := hJ.1
  have hk := hJ.2.1
  have hN6 := hJ.1
  have hsb := jSum_bd hJ hT
  have hsm := jSum_mono n0 n hle.1 hle.2.2.2.1
  have hk9 := hle.2.2.1
  refine lv_aload_n hx hb dL_law_153 rfl (lv_at hl 6 rfl) ?_
  refine lv_iconst (v := nI 3) hx hb dL_law_154 (by decide) ?_
  refine va_calli (va_runV (As := [.int (nI 3)]) (rest := []) ⟨hx, hb, hml, hown, hts⟩ (c_X2_count l G cy ad n k v (Si cy ad n k u (jWas cy ad k0 g)) hn hk _ 3 (by decide)) (cwV 1 hts gL_law_X2_count rfl rfl rfl (by decide +kernel) ⟨Nat.le_of_ble_eq_true rfl, Nat.le_of_ble_eq_true rfl⟩) (mP_V (r := (RX2, TX2, 5)) hN hE S_0 rfl) rfl rfl hl.1 rfl (lv_room (Nat.le_of_ble_eq_true rfl)) dL_law_155 ⟨(by show _ ≤ 667787; omega), (by show _ ≤ 7098410; omega)⟩) hE.2.2.2 (fun q _ h => mE_A hE q h) (mE_A hE) (fun r uq tq H locs ht hvm hw hB hz1 hk1 hS => ?_)
  obtain ⟨rfl, rfl⟩ := hw
  have hE : mE G (lA s) s.heap ad (Sy cy ad n k v (Si cy ad n k u (jWas cy ad k0 g))) H locs := mE_call hE hB ht hS
  rw [show mCount v n k 3 = mChs v n from rfl, jChs hJ n (Nat.le_refl _)]
  refine lv_iload hx hb dL_law_158 (lv_at hl 0 rfl) ?_
  refine mv_lt (tgt := 173) hx hb (by omega) (by omega) dL_law_160 (by decide) (fun c1 => ?_) (fun c1 => ?_)
  · skip
    exfalso; omega
  · skip
    refine lv_aload_n hx hb dL_law_163 rfl (lv_at hl 6 rfl) ?_
    refine lv_iconst (v := nI 1) hx hb dL_law_164 (by decide) ?_
    refine va_calli (va_runV (As := [.int (nI 1)]) (rest := []) ⟨hx, hb, hml, hown, hts⟩ (c_X2_count l G cy ad n k v (Si cy ad n k u (jWas cy ad k0 g)) hn hk _ 1 (by decide)) (cwV 1 hts gL_law_X2_count rfl rfl rfl (by decide +kernel) ⟨Nat.le_of_ble_eq_true rfl, Nat.le_of_ble_eq_true rfl⟩) (mP_V (r := (RX2, TX2, 5)) hN hE S_0 rfl) rfl rfl hl.1 rfl (lv_room (Nat.le_of_ble_eq_true rfl)) dL_law_165 ⟨(by show _ ≤ 667787; omega), (by show _ ≤ 7098410; omega)⟩) hE.2.2.2 (fun q _ h => mE_A hE q h) (mE_A hE) (fun r uq tq H locs ht hvm hw hB hz1 hk1 hS => ?_)
    obtain ⟨rfl, rfl⟩ := hw
    have hE : mE G (lA s) s.heap ad (Sy cy ad n k v (Si cy ad n k u (jWas cy ad k0 g))) H locs := mE_call hE hB ht hS
    rw [show mCount v n k 1 = nI k from rfl]
    refine lv_iload hx hb dL_law_168 (lv_at hl 2 rfl) ?_
    refine mv_ge (tgt := 175) hx hb (by omega) (by omega) dL_law_170 (by decide) (fun c2 => ?_) (fun c2 => ?_)
    · skip
      refine lv_iconst (v := nI 0) hx hb dL_law_175 (by decide) ?_
      refine lv_istore (lv' := [(8, .int (nI 0)), (7, .int (nI (jSum C0 n0))), (6, .ref (ad 70)), (5, .int (nI k0)), (4, .int xv), (3, .int (nI tm)), (2, .ref (ad 4)), (1, .ref (ad 0)), (0, .ref b)]) hx hb dL_law_176 hl (by decide) rfl (fun ls hl => ?_)
      refine mx_loop (β := Nat) (fun n9 (j8 : Nat) H locs ls => n9 = k0 - j8 ∧ (j8 ≤ k0) ∧ mE G (lA s) s.heap ad (Sy cy ad n k v (Si cy ad n k u (jWas cy ad k0 g))) H locs ∧ lv_has ls 17 [(8, .int (nI j8)), (7, .int (nI (jSum C0 n0))), (6, .ref (ad 70)), (5, .int (nI k0)), (4, .int xv), (3, .int (nI tm)), (2, .ref (ad 4)), (1, .ref (ad 0)), (0, .ref b)]) ?_ (k0 - 0) (0) _ _ _ ⟨rfl, (by omega), hE, lv_sub hl [0, 1, 2, 3, 4, 5, 6, 7, 8] rfl⟩
      intro n9 j8 H locs ls hI ih3
      obtain ⟨hn4, hj8, hE, hl⟩ := hI
      have hE : mE G (lA s) s.heap ad (Sy cy ad n k v (Si cy ad n k u (jWas cy ad k0 g))) H locs := hE
      have hl : lv_has ls 17 [(8, .int (nI j8)), (7, .int (nI (jSum C0 n0))), (6, .ref (ad 70)), (5, .int (nI k0)), (4, .int xv), (3, .int (nI tm)), (2, .ref (ad 4)), (1, .ref (ad 0)), (0, .ref b)] := hl
      refine lv_iload hx hb dL_law_178 (lv_at hl 0 rfl) ?_
      refine lv_iload hx hb dL_law_180 (lv_at hl 3 rfl) ?_
      refine mv_ge (tgt := 227) hx hb (by omega) (by omega) dL_law_182 (by decide) (fun c5 => ?_) (fun c5 => ?_)
      · skip
        have hE : mE G (lA s) s.heap ad (Sy cy ad n k v (Si cy ad n k u jN0)) H locs := jWas_drop hk0 hn hk hE
        exact kk _ _ _ hE (lv_sub hl [4, 5, 6, 7, 8] rfl)
      · skip
        have h_j8k : j8 < k0 := by omega
        have h_j8 : j8 < k := by have := hle.2.2.1; omega
        refine lv_iconst (v := nI 0) hx hb dL_law_185 (by decide) ?_
        refine lv_istore (lv' := [(9, .int (nI 0)), (8, .int (nI j8)), (7, .int (nI (jSum C0 n0))), (6, .ref (ad 70)), (5, .int (nI k0)), (4, .int xv), (3, .int (nI tm)), (2, .ref (ad 4)), (1, .ref (ad 0)), (0, .ref b)]) hx hb dL_law_186 hl (by decide) rfl (fun ls hl => ?_)
        refine mx_loop (β := Nat) (fun n9 (w8 : Nat) H locs ls => n9 = 3 - w8 ∧ (w8 ≤ 3) ∧ mE G (lA s) s.heap ad (Sy cy ad n k v (Si cy ad n k u (jWas cy ad k0 g))) H locs ∧ lv_has ls 17 [(9, .int (nI w8)), (8, .int (nI j8)), (7, .int (nI (jSum C0 n0))), (6, .ref (ad 70)), (5, .int (nI k0)), (4, .int xv), (3, .int (nI tm)), (2, .ref (ad 4)), (1, .ref (ad 0)), (0, .ref b)]) ?_ (3 - 0) (0) _ _ _ ⟨rfl, (by omega), hE, lv_sub hl [0, 1, 2, 3, 4, 5, 6, 7, 8, 9] rfl⟩
        intro n9 w8 H locs ls hI ih6
        obtain ⟨hn7, hw8, hE, hl⟩ := hI
        have hE : mE G (lA s) s.heap ad (Sy cy ad n k v (Si cy ad n k u (jWas cy ad k0 g))) H locs := hE
        have hl : lv_has ls 17 [(9, .int (nI w8)), (8, .int (nI j8)), (7, .int (nI (jSum C0 n0))), (6, .ref (ad 70)), (5, .int (nI k0)), (4, .int xv), (3, .int (nI tm)), (2, .ref (ad 4)), (1, .ref (ad 0)), (0, .ref b)] := hl
        refine lv_iload hx hb dL_law_188 (lv_at hl 0 rfl) ?_
        refine lv_iconst (v := nI 3) hx hb dL_law_190 (by decide) ?_
        refine mv_ge (tgt := 221) hx hb (by omega) (by omega) dL_law_191 (by decide) (fun c8 => ?_) (fun c8 => ?_)
        · skip
          refine lv_iinc (v := nI (j8 + 1)) (lv' := [(8, .int (nI (j8 + 1))), (9, .int (nI w8)), (7, .int (nI (jSum C0 n0))), (6, .ref (ad 70)), (5, .int (nI k0)), (4, .int xv), (3, .int (nI tm)), (2, .ref (ad 4)), (1, .ref (ad 0)), (0, .ref b)]) hx hb dL_law_221 hl (k := 1) rfl (nI_add _ _) (by decide) rfl (fun ls hl => ?_)
          refine lv_goto (tgt := 178) hx hb dL_law_224 (by decide) ?_
          exact ih3 (k0 - (j8 + 1)) (j8 + 1) _ _ _ (by rw [hn4]; omega) ⟨rfl, (by omega), hE, lv_sub hl [0, 2, 3, 4, 5, 6, 7, 8, 9] rfl⟩
        · skip
          have h_w8 : w8 < 3 := by omega
          refine lv_aload_n hx hb dL_law_194 rfl (lv_at hl 8 rfl) ?_
          refine lv_iload hx hb dL_law_195 (lv_at hl 1 rfl) ?_
          refine lv_iload hx hb dL_law_197 (lv_at hl 0 rfl) ?_
          refine va_calli (va_runV (As := [.int (nI j8), .int (nI w8)]) (rest := []) ⟨hx, hb, hml, hown, hts⟩ (c_X2_about l G cy ad n k v (Si cy ad n k u (jWas cy ad k0 g)) hn hk _ j8 h_j8 w8 (by omega) (cs j8) (jV_cs hJ h_j8) (jV_0 hJ h_j8)) (cwV 2 hts gL_law_X2_about rfl rfl rfl (by decide +kernel) ⟨Nat.le_of_ble_eq_true rfl, Nat.le_of_ble_eq_true rfl⟩) (mP_V (r := (RX2, TX2, 5)) hN hE S_0 rfl) rfl rfl hl.1 rfl (lv_room (Nat.le_of_ble_eq_true rfl)) dL_law_199 ⟨(by show _ ≤ 667787; omega), (by show _ ≤ 7098410; omega)⟩) hE.2.2.2 (fun q _ h => mE_A hE q h) (mE_A hE) (fun r uq tq H locs ht hvm hw hB hz1 hk1 hS => ?_)
          obtain ⟨rfl, rfl⟩ := hw
          have hE : mE G (lA s) s.heap ad (Sy cy ad n k v (Si cy ad n k u (jWas cy ad k0 g))) H locs := mE_call hE hB ht hS
          rw [jAb3 hJ h_j8 h_w8]
          refine lv_aload hx hb dL_law_202 (lv_at hl 3 rfl) ?_
          refine lv_iload hx hb dL_law_204 (lv_at hl 1 rfl) ?_
          refine mx_ralda hx hb hN hE ((S_r (by omega) (by omega)).trans ((Q_r (by unfold jIs; omega)).trans jWas_70)) (j := j8) rfl (by omega) (by omega) (jWas_at h_j8k) dL_law_206 ?_
          refine lv_iload hx hb dL_law_207 (lv_at hl 0 rfl) ?_
          refine mx_iald hx hb hN hE ((S_r (by omega) (by omega)).trans ((Q_r (by unfold jIs; omega)).trans (jWas_r h_j8k))) (j := w8) rfl (by omega) (by decide) dL_law_209 ?_
          rw [hg j8 h_j8k w8 h_w8, ← hle.2.2.2.2 j8 h_j8k]
          refine lv_icmp_eq (tgt := 215) hx hb dL_law_210 (by decide) (fun c9 => ?_) (fun c9 => ?_)
          · skip
            refine lv_iinc (v := nI (w8 + 1)) (lv' := [(9, .int (nI (w8 + 1))), (8, .int (nI j8)), (7, .int (nI (jSum C0 n0))), (6, .ref (ad 70)), (5, .int (nI k0)), (4, .int xv), (3, .int (nI tm)), (2, .ref (ad 4)), (1, .ref (ad 0)), (0, .ref b)]) hx hb dL_law_215 hl (k := 0) rfl (nI_add _ _) (by decide) rfl (fun ls hl => ?_)
            refine lv_goto (tgt := 188) hx hb dL_law_218 (by decide) ?_
            exact ih6 (3 - (w8 + 1)) (w8 + 1) _ _ _ (by rw [hn7]; omega) ⟨rfl, (by omega), hE, lv_sub hl [0, 1, 2, 3, 4, 5, 6, 7, 8, 9] rfl⟩
          · skip
            exact absurd rfl c9
    · skip
      exfalso; omega
