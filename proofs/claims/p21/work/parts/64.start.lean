set_option maxHeartbeats 8000000 in
set_option maxRecDepth 100000 in
/-- YOUR PART: from the entry, for every script of at most 260 ints, the law comes to its end with true -/
theorem whole_start {p : Program} {e : Env} {s : State} {m : MethodId} {below : List Frame} {meth : Method} {c : Code} (l : Launch) (hflags : l.flags = flags0) {b L : Nat} {xs : Nat → Int32} (hL : L ≤ 260) (C0 : lw_At p s m meth c b L xs) : W p l e room_1 s m #[Value.ref b] below meth c s.heap [] 0 0 (lw_Z below #[Value.ref b] s) (entryFrame m ([Value.ref b] : List Value).toArray 17) := by
  obtain ⟨hx, hb, hr, hml, hown, hts0, hX, hbl, hlocks, hgv⟩ := id C0
  have hb : c.code = cL_law := hb
  have hown : s.vm.findClass RL = some m.cls := hown
  have hts : ∀ w ∈ wsL_law, w.before #[Value.ref b] s = true := fun w h => hts0 w (wsL_law_in w h)
  obtain ⟨G, cy, hN⟩ := st_mN (A := lA s) hts0
  have hbA : ¬ lA s b := Nat.not_le.mpr hbl
  obtain ⟨M0, hM0⟩ : ∃ y99 : mC, y99 = fun _ => none := ⟨_, rfl⟩
  have hE : mE G (lA s) s.heap (fun _ => 0) M0 s.heap [] := by
    rw [hM0]
    exact ⟨⟨fun k e h => (by cases h), fun k j h => absurd rfl h, fun _ _ => rfl⟩, fun k h => absurd rfl h, fun q h => h, va_S.rf⟩
  have n0 : ∀ j, M0 j = none := fun j => by rw [hM0]
  have hl := lv_entry ([.ref b]) (n := 17) (Nat.le_of_ble_eq_true rfl)
  rw [lg_entry_eq]
  generalize (lg_sl ([.ref b]) ++ List.replicate (17 - (lg_sl ([.ref b])).length) Slot.unset).toArray = ls at hl ⊢
  have hl : lv_has ls 17 [(0, .ref b)] := hl
  refine mx_newo (C := RX2) (T := TX2) (N := 5) (ci := 2) (fs := [.null, .null, .null, .int 0, .int 0]) hx hb hts inlX2 tyX2 tyX2_ok hown (hts (.classLink RL 26 RX2) (by decide +kernel)) (hts (.instantiable RX2 5) (by decide +kernel)) (hts (.initialized RX2) (by decide +kernel)) hN hE rfl (fun j hj => by rcases (show j = 0 ∨ j = 1 ∨ j = 2 ∨ j = 3 ∨ j = 4 by omega) with rfl | rfl | rfl | rfl | rfl <;> rfl) 0 (n0 0) (by decide) (Nat.le_of_ble_eq_true rfl) (Nat.le_of_ble_eq_true rfl) dL_law_0 (fun ad1 H hj1 hE => ?_)
  obtain ⟨M1, hM1⟩ : ∃ y99, y99 = mU M0 0 (.inr (2, [.null, .null, .null, .int 0, .int 0])) := ⟨_, rfl⟩
  rw [← hM1] at hE
  have p0 : M1 0 = some (.inr (2, [.null, .null, .null, .int 0, .int 0])) := by rw [hM1, mU_s]
  have n1 : ∀ j, j ≠ 0 → M1 j = none := fun j hj => by rw [hM1, mU_n _ _ hj]; exact n0 j
  refine lv_dup hx hb dL_law_3 rfl ?_
  refine va_callv (va_runI (As := []) (rest := [.ref (ad1 0)]) ⟨hx, hb, hml, hown, hts⟩ (c_X2_init l G cy ad1 M1 H.size p0 (n1 1 (by decide)) (n1 2 (by decide)) (n1 3 (by decide))) (cwI 0 hts gL_law_X2_init rfl rfl rfl (hts (.initialized RX2) (by decide +kernel)) (hts (.methodLink RL 69 yX2_init) (by decide +kernel)) (hts (.instanceMethod yX2_init) (by decide +kernel)) rfl (by decide +kernel) ⟨Nat.le_of_ble_eq_true rfl, Nat.le_of_ble_eq_true rfl⟩) (mP_S hN hE) rfl rfl hl.1 rfl (lv_room (Nat.le_of_ble_eq_true rfl)) dL_law_4 ⟨Nat.le_of_ble_eq_true rfl, Nat.le_of_ble_eq_true rfl⟩) hE.2.2.2 (fun q _ h => mE_A hE q h) (mE_A hE) (fun uq tq H locs ht hvm hw hB hz1 hk1 hS => ?_)
  obtain ⟨ad2, M2⟩ := uq
  obtain ⟨wa, wr, w0, w1, w2, w3⟩ := hw
  have wa : ∀ j, j ≠ 1 → j ≠ 2 → j ≠ 3 → ad2 j = ad1 j := wa
  have wr : ∀ j, j ≠ 0 → j ≠ 1 → j ≠ 2 → j ≠ 3 → M2 j = M1 j := wr
  have w0 : M2 0 = some (.inr (2, [.ref (ad2 1), .ref (ad2 2), .ref (ad2 3), .int 0, .int 0])) := w0
  have w1 : M2 1 = some (.inl (cy 1, 6, .inr (.inr (.inr (.inr (fun _ => none)))))) := w1
  have w2 : M2 2 = some (.inl (cy 2, 20, .inr (.inr (.inr (.inr (fun _ => none)))))) := w2
  have w3 : M2 3 = some (mI cy 32 (fun _ => 0)) := w3
  have hE : mE G (lA s) s.heap ad2 M2 H locs := mE_call hE hB ht hS
  have n2 : ∀ j, 4 ≤ j → M2 j = none := fun j hj => (wr j (by omega) (by omega) (by omega) (by omega)).trans (n1 j (by omega))
  have hM : M2 = Sy cy ad2 0 0 (fun _ _ => 0) jN0 := st_begin w0 w1 w2 w3 n2
  subst hM
  rw [← wa 0 (by decide) (by decide) (by decide)]
  refine lv_astore_n (lv' := [(1, .ref (ad2 0)), (0, .ref b)]) hx hb dL_law_7 rfl hl (by decide) rfl (fun ls hl => ?_)
  refine lv_aload_n hx hb dL_law_8 rfl (lv_at hl 0 rfl) ?_
  refine lv_aload_n hx hb dL_law_9 rfl (lv_at hl 1 rfl) ?_
  refine va_callq (va_runS (As := [.ref (ad2 0), .ref b]) (rest := []) ⟨hx, hb, hml, hown, hts⟩ (c_L_build l G cy ad2 (fun _ _ => 0) H.size b L xs hL) (va_cwS 2 hts gL_law_L_build rfl rfl rfl (by decide +kernel) ⟨Nat.le_of_ble_eq_true rfl, Nat.le_of_ble_eq_true rfl⟩) (jX_S hN hE hX hbl hbA) rfl rfl hl.1 rfl (lv_room (Nat.le_of_ble_eq_true rfl)) dL_law_10 ⟨Nat.le_of_ble_eq_true rfl, Nat.le_of_ble_eq_true rfl⟩) hE.2.2.2 (fun q _ h => mE_A hE q h) (mE_A hE) (fun r uq tq H locs ht hvm hw hB hz1 hk1 hS => ?_)
  obtain ⟨ad3, n, k, v, u, C, cs, ms, hr9, wt, ha0, hJ, hn0⟩ := hw
  subst hr9
  subst wt
  have hE : mE G (lA s) s.heap ad3 (Sy cy ad3 n k v (Si cy ad3 n k u jN0)) H locs := mE_call hE hB ht hS
  rw [← ha0] at hl
  refine lv_astore_n (lv' := [(2, .ref (ad3 4)), (1, .ref (ad3 0)), (0, .ref b)]) hx hb dL_law_13 rfl hl (by decide) rfl (fun ls hl => ?_)
  refine lv_aload_n hx hb dL_law_14 rfl (lv_at hl 0 rfl) ?_
  refine lv_ifnonnull (tgt := 20) hx hb dL_law_15 (by decide) ?_
  refine lv_iconst (v := nI 0) hx hb dL_law_20 (by decide) ?_
  refine lv_istore_n (lv' := [(3, .int (nI 0)), (2, .ref (ad3 4)), (1, .ref (ad3 0)), (0, .ref b)]) hx hb dL_law_21 rfl hl (by decide) rfl (fun ls hl => ?_)
  refine W.widen (k := 200 + 33 * 0) (n := 3200 + 280 * 0) (by decide) (by decide) ?_
  exact law_loop hx hb hml hown hts hN hr hlocks hL hX hbl 20 0 (by decide) ad3 n k v u C cs ms H _ ls (jV_T hJ (by decide)) hn0 hE hl
