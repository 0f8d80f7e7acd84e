set_option maxHeartbeats 4000000 in
set_option maxRecDepth 100000 in
/-- build -/
theorem c_L_build (l : Launch) (G : va_G) (cy : Nat → ClassId) (ad : Nat → Nat) (v : Nat → Nat → Int32) (sz : Nat) (b L : Nat) (xs : Nat → Int32) (hL : L ≤ 260) : mXq l yL_build wsL_build ({ frames := 19, cells := 184, slots := 3009, locals := 580 }) G cy ad (Sy cy ad 0 0 v jN0) sz b L xs [.ref (ad 0), .ref b] 184 3009 (fun (r : Option Nat) t => ∃ (ad' : Nat → Nat) (n k : Nat) (v' u' : Nat → Nat → Int32) (C cs ms : Nat → Nat), r = some (ad' 4) ∧ t = (ad', Sy cy ad' n k v' (Si cy ad' n k u' jN0)) ∧ ad' 0 = ad 0 ∧ jV n k v' u' C cs ms 480 ∧ 1 ≤ n) := by
  refine Met.ofW (cc := cL_build) (maxL := 4) (ret := (some (.object "SealedCupboardsLaw$Sim"))) (by decide) rfl ?_
  intro p e s m args below meth c s₁ B hml hv
  obtain ⟨rfl, hv⟩ := hv
  have hX := hv.2.1
  have hbl := hv.2.2.1
  have hbA := hv.2.2.2
  have hv := hv.1
  have hsz := hv.1
  subst hsz
  have hN := hv.2.2
  have hE := mP_E hv
  have hx := B.exec
  have hb := B.bytes
  have hr := B.returns
  have hts := atoms_spec (ws := wsL_build) B.pre
  have hown : s.vm.findClass RL = some m.cls := findClass_of_methodNamed B.named
  have hlocks := B.notSynchronized
  have hiX3 : ∀ w ∈ wsX30, w ∈ wsL_build := by decide +kernel
  have hl := lv_entry ([.ref (ad 0), .ref b]) (n := 4) (Nat.le_of_ble_eq_true rfl)
  rw [lg_entry_eq]
  generalize (lg_sl ([.ref (ad 0), .ref b]) ++ List.replicate (4 - (lg_sl ([.ref (ad 0), .ref b])).length) Slot.unset).toArray = ls at hl ⊢
  have hl : lv_has ls 4 [(0, .ref (ad 0)), (1, .ref b)] := hl
  generalize hargs : ([.ref (ad 0), .ref b] : List Value).toArray = args at hts ⊢
  refine mx_newo (C := RX3) (T := TX3) (N := 3) (ci := 3) (fs := [.null, .null, .null]) hx hb hts hiX3 tyX3 tyX3_ok hown (hts (.classLink RL 10 RX3) (by decide +kernel)) (hts (.instantiable RX3 3) (by decide +kernel)) (hts (.initialized RX3) (by decide +kernel)) hN hE rfl (fun j hj => by rcases (show j = 0 ∨ j = 1 ∨ j = 2 by omega) with rfl | rfl | rfl <;> rfl) 4 (S_r (by decide) (by decide)) (by decide) (Nat.le_of_ble_eq_true rfl) (Nat.le_of_ble_eq_true rfl) dL_build_0 (fun ad1 H hj1 hE => ?_)
  rw [← hj1 0 (by decide)] at hl
  refine lv_dup hx hb dL_build_3 rfl ?_
  refine va_callv (va_runIN (As := []) (rest := [.ref (ad1 4)]) ⟨hx, hb, hml, hown, hts⟩ (c_X3_init l G cy ad1 _ _ (mU_s _ _ _) ((mU_n _ _ (by decide)).trans (S_r (by decide) (by decide))) ((mU_n _ _ (by decide)).trans (S_r (by decide) (by decide))) ((mU_n _ _ (by decide)).trans (S_r (by decide) (by decide)))) ⟨va_cnB 0 hts gL_build_X3_init_n60 rfl rfl rfl (hN.2.1 (.methodLinkNest RL 60 yX3_init RL) (by decide +kernel)) (hts (.initialized RX3) (by decide +kernel)) (by decide +kernel) ⟨Nat.le_of_ble_eq_true rfl, Nat.le_of_ble_eq_true rfl⟩, rfl, (hts (.instanceMethod yX3_init) (by decide +kernel))⟩ (mP_S hN hE) rfl rfl hl.1 rfl (lv_room (Nat.le_of_ble_eq_true rfl)) dL_build_4 ⟨Nat.le_of_ble_eq_true rfl, Nat.le_of_ble_eq_true rfl⟩) hE.2.2.2 (fun q _ h => mE_A hE q h) (mE_A hE) (fun uq tq H locs ht hvm hw hB hz1 hk1 hS => ?_)
  obtain ⟨ad2, M2⟩ := uq
  obtain ⟨wa, wr, w4, w5, w6, w7⟩ := hw
  have wa : ∀ j, j ≠ 5 → j ≠ 6 → j ≠ 7 → ad2 j = ad1 j := wa
  have wr : ∀ j, j ≠ 4 → j ≠ 5 → j ≠ 6 → j ≠ 7 → M2 j = (Sy cy ad 0 0 v jN0) j := fun j a4 a5 a6 a7 => (wr j a4 a5 a6 a7).trans (mU_n _ _ a4)
  have hM : M2 = Sy cy ad2 0 0 v (Si cy ad2 0 0 (fun _ _ => 0) jN0) := jBegin w4 w5 w6 w7 wr (fun j a4 a5 a6 a7 => (wa j a5 a6 a7).trans (hj1 j a4))
  have hE : mE G (mA ad (Sy cy ad 0 0 v jN0) s.heap.size) s.heap ad2 (Sy cy ad2 0 0 v (Si cy ad2 0 0 (fun _ _ => 0) jN0)) H locs := by rw [← hM]; exact mE_call hE hB ht hS
  have ea0 : ad2 0 = ad 0 := (wa 0 (by decide) (by decide) (by decide)).trans (hj1 0 (by decide))
  rw [← wa 0 (by decide) (by decide) (by decide)] at hl
  rw [← wa 4 (by decide) (by decide) (by decide)]
  refine lv_astore_n (lv' := [(2, .ref (ad2 4)), (0, .ref (ad2 0)), (1, .ref b)]) hx hb dL_build_7 rfl hl (by decide) rfl (fun ls hl => ?_)
  refine lv_iconst (v := nI 0) hx hb dL_build_8 (by decide) ?_
  refine lv_istore_n (lv' := [(3, .int (nI 0)), (2, .ref (ad2 4)), (0, .ref (ad2 0)), (1, .ref b)]) hx hb dL_build_9 rfl hl (by decide) rfl (fun ls hl => ?_)
  refine W.widen (k := 4 + 6 * (30 - (30 - 0))) (n := 9 + 100 * (30 - (30 - 0))) (by omega) (by omega) ?_
  refine mx_loopc (β := Nat × (Nat → Nat) × Nat × Nat × (Nat → Nat → Int32) × (Nat → Nat → Int32)) 30 4 6 9 100 (fun n9 (bb9 : Nat × (Nat → Nat) × Nat × Nat × (Nat → Nat → Int32) × (Nat → Nat → Int32)) H locs ls => (fun (q : Nat) (ad9 : Nat → Nat) (n : Nat) (k : Nat) (v9 : Nat → Nat → Int32) (u9 : Nat → Nat → Int32) => n9 = 30 - q ∧ (q ≤ 30 ∧ ad9 0 = ad 0 ∧ (q = 0 ∨ 1 ≤ n) ∧ ∃ C cs ms : Nat → Nat, jV n k v9 u9 C cs ms (16 * q)) ∧ mE G (mA ad (Sy cy ad 0 0 v jN0) s.heap.size) s.heap ad9 (Sy cy ad9 n k v9 (Si cy ad9 n k u9 jN0)) H locs ∧ lv_has ls 4 [(3, .int (nI q)), (2, .ref (ad9 4)), (1, .ref b), (0, .ref (ad9 0))]) (bb9.1) (bb9.2.1) (bb9.2.2.1) (bb9.2.2.2.1) (bb9.2.2.2.2.1) (bb9.2.2.2.2.2)) ?_ (30 - 0) (0, ad2, 0, 0, v, (fun _ _ => 0)) _ _ _ ⟨rfl, ⟨by omega, ea0, Or.inl rfl, _, _, _, jV_begin⟩, hE, lv_sub hl [0, 1, 3, 2] rfl⟩
  intro n9 bb9 H locs ls hI ih1
  obtain ⟨q, ad9, n, k, v9, u9⟩ := bb9
  obtain ⟨hn2, ⟨hq30, ha0, hq1, C, cs, ms, hJ⟩, hE, hl⟩ := hI
  have hq30 : q ≤ 30 := hq30
  have ha0 : ad9 0 = ad 0 := ha0
  have hq1 : q = 0 ∨ 1 ≤ n := hq1
  have hJ : jV n k v9 u9 C cs ms (16 * q) := hJ
  have hE : mE G (mA ad (Sy cy ad 0 0 v jN0) s.heap.size) s.heap ad9 (Sy cy ad9 n k v9 (Si cy ad9 n k u9 jN0)) H locs := hE
  have hl : lv_has ls 4 [(3, .int (nI q)), (2, .ref (ad9 4)), (1, .ref b), (0, .ref (ad9 0))] := hl
  refine lv_iload_n hx hb dL_build_10 rfl (lv_at hl 0 rfl) ?_
  refine lv_bipush (v := nI 30) hx hb dL_build_11 (by decide) ?_
  refine mv_ge (tgt := 53) hx hb (by omega) (by omega) dL_build_13 (by decide) (fun c3 => ?_) (fun c3 => ?_)
  · skip
    refine lv_aload_n hx hb dL_build_53 rfl (lv_at hl 1 rfl) ?_
    refine W.widen (k := 184) (n := 3009) (by omega) (by omega) ?_
    exact mx_aret hx hb hr hE hlocks ⟨ad9, n, k, v9, u9, C, cs, ms, rfl, rfl, ha0, jV_T hJ (by omega), by omega⟩ dL_build_54
  · skip
    refine lv_aload_n hx hb dL_build_16 rfl (lv_at hl 3 rfl) ?_
    refine lv_aload_n hx hb dL_build_17 rfl (lv_at hl 1 rfl) ?_
    refine lv_aload_n hx hb dL_build_18 rfl (lv_at hl 2 rfl) ?_
    refine lv_iload_n hx hb dL_build_19 rfl (lv_at hl 0 rfl) ?_
    refine lv_bipush (v := nI 15) hx hb dL_build_20 (by decide) ?_
    refine mv_irem (z := nI (q % 15)) hx hb (by decide) (pk_rem (by omega) (by omega) (by omega)) dL_build_22 ?_
    refine va_calli (va_runS (As := [.ref b, .int (nI (q % 15))]) (rest := [.ref (ad9 4), .ref (ad9 0)]) ⟨hx, hb, hml, hown, hts⟩ (c_L_cell l G cy ad9 (Sy cy ad9 n k v9 (Si cy ad9 n k u9 jN0)) _ b L xs hL (q % 15) (by omega)) (va_cwS 2 hts gL_build_L_cell rfl rfl rfl (by decide +kernel) ⟨Nat.le_of_ble_eq_true rfl, Nat.le_of_ble_eq_true rfl⟩) (jX_S hN hE hX hbl hbA) rfl rfl hl.1 rfl (lv_room (Nat.le_of_ble_eq_true rfl)) dL_build_23 ⟨(by show _ ≤ 184; omega), (by show _ ≤ 3009; omega)⟩) hE.2.2.2 (fun q _ h => mE_A hE q h) (mE_A hE) (fun r uq tq H locs ht hvm hw hB hz1 hk1 hS => ?_)
    obtain ⟨rfl, rfl⟩ := hw
    have hE : mE G (mA ad (Sy cy ad 0 0 v jN0) s.heap.size) s.heap ad9 (Sy cy ad9 n k v9 (Si cy ad9 n k u9 jN0)) H locs := mE_call hE hB ht hS
    refine lv_iload_n hx hb dL_build_26 rfl (lv_at hl 0 rfl) ?_
    refine lv_bipush (v := nI 15) hx hb dL_build_27 (by decide) ?_
    refine mv_idiv (z := nI (q / 15)) hx hb (by decide) (pk_div (by omega) (by omega) (by omega)) dL_build_29 ?_
    refine lv_iconst (v := nI 4) hx hb dL_build_30 (by decide) ?_
    refine mv_imul (z := nI ((q / 15) * 4)) hx hb (pk_mul _ _) dL_build_31 ?_
    refine mv_ishr (z := (jCell L xs (q % 15)) >>> ((nI ((q / 15) * 4)) &&& 31)) hx hb rfl dL_build_32 ?_
    refine lv_sipush (v := nI 227) hx hb dL_build_33 (by decide) ?_
    refine lv_iload_n hx hb dL_build_36 rfl (lv_at hl 0 rfl) ?_
    refine mv_imul (z := nI (227 * q)) hx hb (pk_mul _ _) dL_build_37 ?_
    refine mv_iadd (z := ((jCell L xs (q % 15)) >>> ((nI ((q / 15) * 4)) &&& 31)) + (nI (227 * q))) hx hb rfl dL_build_38 ?_
    refine va_calli (va_runS (As := [.ref (ad9 0), .ref (ad9 4), .int (((jCell L xs (q % 15)) >>> ((nI ((q / 15) * 4)) &&& 31)) + (nI (227 * q)))]) (rest := []) ⟨hx, hb, hml, hown, hts⟩ (c_L_act l G cy ad9 jN0 (fun _ _ => rfl) n k v9 u9 C cs ms (16 * q) hJ _ (((jCell L xs (q % 15)) >>> ((nI ((q / 15) * 4)) &&& 31)) + (nI (227 * q)))) (va_cwS 3 hts gL_build_L_act rfl rfl rfl (by decide +kernel) ⟨Nat.le_of_ble_eq_true rfl, Nat.le_of_ble_eq_true rfl⟩) (mP_S hN hE) rfl rfl hl.1 rfl (lv_room (Nat.le_of_ble_eq_true rfl)) dL_build_39 ⟨(by show _ ≤ 184; omega), (by show _ ≤ 3009; omega)⟩) hE.2.2.2 (fun q _ h => mE_A hE q h) (mE_A hE) (fun r uq tq H locs ht hvm hw hB hz1 hk1 hS => ?_)
    obtain ⟨hr1, ad3, n3, k3, v3, u3, C3, cs3, ms3, wt, wa3, hJ3, hle3⟩ := hw
    have hr1 : r = nI 1 := hr1
    subst hr1
    subst wt
    have hE : mE G (mA ad (Sy cy ad 0 0 v jN0) s.heap.size) s.heap ad3 (Sy cy ad3 n3 k3 v3 (Si cy ad3 n3 k3 u3 jN0)) H locs := mE_call hE hB ht hS
    have ha3 : ad3 0 = ad9 0 := wa3 0 (Or.inl rfl)
    have ha4 : ad3 4 = ad9 4 := wa3 4 (Or.inr (Or.inl rfl))
    rw [← ha3, ← ha4] at hl
    refine lv_if_ne (tgt := 47) hx hb dL_build_42 (by decide) (fun c4 => ?_) (fun c4 => ?_)
    · skip
      have c4 : ¬ 1 = 0 := fun h9 => c4 ((mz_eq (by omega)).mpr h9)
      refine lv_iinc (v := nI (q + 1)) (lv' := [(3, .int (nI (q + 1))), (2, .ref (ad3 4)), (1, .ref b), (0, .ref (ad3 0))]) hx hb dL_build_47 hl (k := 0) rfl (nI_add _ _) (by decide) rfl (fun ls hl => ?_)
      refine lv_goto (tgt := 10) hx hb dL_build_50 (by decide) ?_
      refine W.widen (k := 4 + 6 * (30 - (30 - (q + 1)))) (n := 9 + 100 * (30 - (30 - (q + 1)))) (by omega) (by omega) ?_
      exact ih1 (30 - (q + 1)) (q + 1, ad3, n3, k3, v3, u3) _ _ _ (by rw [hn2]; omega) ⟨rfl, ⟨by omega, ha3.trans ha0, Or.inr hle3.2.1, C3, cs3, ms3, jV_T hJ3 (by omega)⟩, hE, lv_sub hl [0, 1, 2, 3] rfl⟩
    · skip
      have c4 := (mz_eq (by omega)).mp c4
      exfalso; omega
