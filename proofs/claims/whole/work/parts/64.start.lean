theorem st_begin {cy : Nat → ClassId} {ad : Nat → Nat} {M : mC} (m0 : M 0 = some (.inr (2, [.ref (ad 1), .ref (ad 2), .ref (ad 3), .int 0, .int 0]))) (m1 : M 1 = some (.inl (cy 1, 6, .inr (.inr (.inr (.inr (fun _ => none))))))) (m2 : M 2 = some (.inl (cy 2, 20, .inr (.inr (.inr (.inr (fun _ => none))))))) (m3 : M 3 = some (mI cy 32 (fun _ => 0)))
    (m4 : M 4 = some (.inr (3, [.int 0, .int 0, .int 0, .ref (ad 5), .ref (ad 6), .ref (ad 7), .ref (ad 8), .ref (ad 9), .ref (ad 10), .ref (ad 11), .int 0]))) (m5 : M 5 = some (mI cy 96 (fun _ => 0))) (m6 : M 6 = some (mI cy 6 (fun _ => 0))) (m7 : M 7 = some (mI cy 20 (fun _ => 0))) (m8 : M 8 = some (mI cy 20 (fun _ => 0))) (m9 : M 9 = some (mI cy 20 (fun _ => 0))) (m10 : M 10 = some (mI cy 32 (fun _ => 0))) (m11 : M 11 = some (mI cy 32 (fun _ => 0))) (m12 : M 12 = some (mJ cy (fun _ => 0))) (mr : ∀ j, 13 ≤ j → M j = none) : M = Sy cy ad 0 0 (fun _ _ => 0) (fun _ => 0) := by
  have e1 : (fun i => if i < 0 then some (ad (100 + i)) else none) = (fun _ => none : Nat → Option Nat) := funext (fun i => if_neg (Nat.not_lt_zero i))
  have e2 : (fun i => if i < 0 then some (ad (400 + i)) else none) = (fun _ => none : Nat → Option Nat) := funext (fun i => if_neg (Nat.not_lt_zero i))
  funext j
  rcases (show j = 0 ∨ j = 1 ∨ j = 2 ∨ j = 3 ∨ j = 4 ∨ j = 5 ∨ j = 6 ∨ j = 7 ∨ j = 8 ∨ j = 9 ∨ j = 10 ∨ j = 11 ∨ j = 12 ∨ 13 ≤ j by omega) with rfl | rfl | rfl | rfl | rfl | rfl | rfl | rfl | rfl | rfl | rfl | rfl | rfl | hj
  · rw [m0, S_0]; rfl
  · rw [m1, S_1, mO1, e1]
  · rw [m2, S_2, mO2, e2]
  · rw [m3, S_3]
  · rw [m4, S_4]
  · rw [m5, S_5]
  · rw [m6, S_6]
  · rw [m7, S_7]
  · rw [m8, S_8]
  · rw [m9, S_9]
  · rw [m10, S_10]
  · rw [m11, S_11]
  · rw [m12, S_12]
  · rw [mr j hj]
    exact (sy_none (by refine ⟨by omega, ?_⟩; omega)).symm
theorem st_inv : mInv 0 0 (fun _ _ => 0) (fun _ => 0) :=
  ⟨by decide, by decide, rfl, rfl, fun i hi => absurd hi (Nat.not_lt_zero i), fun j hj => absurd hj (Nat.not_lt_zero j), fun _ _ _ => ⟨rfl, fun _ _ => rfl⟩⟩
set_option maxHeartbeats 8000000 in
set_option maxRecDepth 100000 in
/-- YOUR PART: from the entry, for every script of at most 3584 ints, the law comes to its end with true -/
theorem whole_start {p : Program} {e : Env} {s : State} {m : MethodId} {below : List Frame} {meth : Method} {c : Code} (l : Launch) (hflags : l.flags = flags0) {b L : Nat} {xs : Nat → Int32} (hL : L ≤ 3584) (C0 : lw_At p s m meth c b L xs) : W p l e room_1 s m #[Value.ref b] below meth c s.heap [] 0 0 (lw_Z below #[Value.ref b] s) (entryFrame m ([Value.ref b] : List Value).toArray 9) := by
  obtain ⟨hx, hb, hr, hml, hown, hts0, hX, hbl, hlocks, hgv⟩ := id C0
  have hst : l.stackTraces = false := by unfold Launch.stackTraces; rw [hflags]; decide +kernel
  have hb : c.code = cL_law := hb
  have hown : s.vm.findClass RL = some m.cls := hown
  have hts : ∀ w ∈ wsL_law, w.before #[Value.ref b] s = true := fun w h => hts0 w (wsL_law_in w h)
  obtain ⟨G, cy, hN⟩ := st_mN hts0 (flat_of_before _ hgv)
  obtain ⟨M0, hM0⟩ : ∃ y99 : mC, y99 = fun _ => none := ⟨_, rfl⟩
  have hE : mE G (lA s) s.heap (fun _ => 0) M0 s.heap [] := by
    rw [hM0]
    exact ⟨⟨fun k e h => (by cases h), fun k j h => absurd rfl h, fun _ _ => rfl⟩, fun k h => absurd rfl h, fun q h => h, va_S.rf⟩
  have n0 : ∀ j, M0 j = none := fun j => by rw [hM0]
  have hl := lv_entry ([.ref b]) (n := 9) (Nat.le_of_ble_eq_true rfl)
  rw [lg_entry_eq]
  generalize (lg_sl ([.ref b]) ++ List.replicate (9 - (lg_sl ([.ref b])).length) Slot.unset).toArray = ls at hl ⊢
  have hl : lv_has ls 9 [(0, .ref b)] := hl
  refine mx_newo (C := RX2) (T := TX2) (N := 5) (ci := 2) (fs := [.null, .null, .null, .int 0, .int 0]) hx hb hts inlX2 tyX2 tyX2_ok hown (hts (.classLink RL 8 RX2) (by decide +kernel)) (hts (.instantiable RX2 5) (by decide +kernel)) (hts (.initialized RX2) (by decide +kernel)) hN hE rfl (fun j hj => by rcases (show j = 0 ∨ j = 1 ∨ j = 2 ∨ j = 3 ∨ j = 4 by omega) with rfl | rfl | rfl | rfl | rfl <;> rfl) 0 (n0 0) (by decide) (Nat.le_of_ble_eq_true rfl) (Nat.le_of_ble_eq_true rfl) dL_law_0 (fun ad1 H hj1 hE => ?_)
  obtain ⟨M1, hM1⟩ : ∃ y99, y99 = mU M0 0 (.inr (2, [.null, .null, .null, .int 0, .int 0])) := ⟨_, rfl⟩
  rw [← hM1] at hE
  have p0 : M1 0 = some (.inr (2, [.null, .null, .null, .int 0, .int 0])) := by rw [hM1, mU_s]
  have n1 : ∀ j, j ≠ 0 → M1 j = none := fun j hj => by rw [hM1, mU_n _ _ hj]; exact n0 j
  refine lv_dup hx hb dL_law_3 rfl ?_
  refine va_callv (va_runI (As := []) (rest := [.ref (ad1 0)]) ⟨hx, hb, hml, hown, hts⟩ (c_X2_init l G cy ad1 M1 H.size p0 (n1 1 (by decide)) (n1 2 (by decide)) (n1 3 (by decide))) (cwI 0 hts gL_law_X2_init rfl rfl rfl (hts (.initialized RX2) (by decide +kernel)) (hts (.methodLink RL 69 yX2_init) (by decide +kernel)) (hts (.instanceMethod yX2_init) (by decide +kernel)) rfl (by decide +kernel) ⟨Nat.le_of_ble_eq_true rfl, Nat.le_of_ble_eq_true rfl⟩) (mP_S hN hE) rfl rfl hl.1 rfl (lv_room (Nat.le_of_ble_eq_true rfl)) dL_law_4 ⟨Nat.le_of_ble_eq_true rfl, Nat.le_of_ble_eq_true rfl⟩) hE.2.2.2 (fun q _ h => mE_A hE q h) (mE_A hE) (fun uq tq H locs ht hvm hw hB hz1 hk1 hS => ?_)
  obtain ⟨ad2, M2⟩ := uq
  obtain ⟨wa, wr, w0, w1, w2, w3⟩ := hw
  have wa : ∀ j, j ≠ 1 → j ≠ 2 → j ≠ 3 → ad2 j = ad1 j := wa
  have wr : ∀ j, j ≠ 0 → j ≠ 1 → j ≠ 2 → j ≠ 3 → M2 j = M1 j := wr
  have w0 : M2 0 = some (.inr (2, [.ref (ad2 1), .ref (ad2 2), .ref (ad2 3), .int 0, .int 0])) := w0
  have w1 : M2 1 = some (.inl (cy 1, 6, .inr (.inr (.inr (.inr (fun _ => none)))))) := w1
  have w2 : M2 2 = some (.inl (cy 2, 20, .inr (.inr (.inr (.inr (fun _ => none)))))) := w2
  have w3 : M2 3 = some (mI cy 32 (fun _ => 0)) := w3
  have hE : mE G (lA s) s.heap ad2 M2 H locs := mE_call hE hB ht hS
  have n2 : ∀ j, 4 ≤ j → M2 j = none := fun j hj => (wr j (by omega) (by omega) (by omega) (by omega)).trans (n1 j (by omega))
  rw [← wa 0 (by decide) (by decide) (by decide)]
  refine lv_astore_n (lv' := [(1, .ref (ad2 0)), (0, .ref b)]) hx hb dL_law_7 rfl hl (by decide) rfl (fun ls hl => ?_)
  refine mx_newo (C := RX3) (T := TX3) (N := 11) (ci := 3) (fs := [.int 0, .int 0, .int 0, .null, .null, .null, .null, .null, .null, .null, .int 0]) hx hb hts inlX3 tyX3 tyX3_ok hown (hts (.classLink RL 70 RX3) (by decide +kernel)) (hts (.instantiable RX3 11) (by decide +kernel)) (hts (.initialized RX3) (by decide +kernel)) hN hE rfl (fun j hj => by rcases (show j = 0 ∨ j = 1 ∨ j = 2 ∨ j = 3 ∨ j = 4 ∨ j = 5 ∨ j = 6 ∨ j = 7 ∨ j = 8 ∨ j = 9 ∨ j = 10 by omega) with rfl | rfl | rfl | rfl | rfl | rfl | rfl | rfl | rfl | rfl | rfl <;> rfl) 4 (n2 4 (by decide)) (by decide) (Nat.le_of_ble_eq_true rfl) (Nat.le_of_ble_eq_true rfl) dL_law_8 (fun ad3 H hj3 hE => ?_)
  obtain ⟨M3, hM3⟩ : ∃ y99, y99 = mU M2 4 (.inr (3, [.int 0, .int 0, .int 0, .null, .null, .null, .null, .null, .null, .null, .int 0])) := ⟨_, rfl⟩
  rw [← hM3] at hE
  have p4 : M3 4 = some (.inr (3, [.int 0, .int 0, .int 0, .null, .null, .null, .null, .null, .null, .null, .int 0])) := by rw [hM3, mU_s]
  have o3 : ∀ j, j ≠ 4 → M3 j = M2 j := fun j hj => by rw [hM3, mU_n _ _ hj]
  have n3 : ∀ j, 5 ≤ j → M3 j = none := fun j hj => (o3 j (by omega)).trans (n2 j (by omega))
  rw [← hj3 0 (by decide)] at hl
  refine lv_dup hx hb dL_law_11 rfl ?_
  refine va_callv (va_runI (As := []) (rest := [.ref (ad3 4)]) ⟨hx, hb, hml, hown, hts⟩ (c_X3_init l G cy ad3 M3 H.size p4 (n3 5 (by decide)) (n3 6 (by decide)) (n3 7 (by decide)) (n3 8 (by decide)) (n3 9 (by decide)) (n3 10 (by decide)) (n3 11 (by decide))) (cwI 0 hts gL_law_X3_init rfl rfl rfl (hts (.initialized RX3) (by decide +kernel)) (hts (.methodLink RL 72 yX3_init) (by decide +kernel)) (hts (.instanceMethod yX3_init) (by decide +kernel)) rfl (by decide +kernel) ⟨Nat.le_of_ble_eq_true rfl, Nat.le_of_ble_eq_true rfl⟩) (mP_S hN hE) rfl rfl hl.1 rfl (lv_room (Nat.le_of_ble_eq_true rfl)) dL_law_12 ⟨Nat.le_of_ble_eq_true rfl, Nat.le_of_ble_eq_true rfl⟩) hE.2.2.2 (fun q _ h => mE_A hE q h) (mE_A hE) (fun uq tq H locs ht hvm hw hB hz1 hk1 hS => ?_)
  obtain ⟨ad4, M4⟩ := uq
  obtain ⟨va, vr, v4, v5, v6, v7, v8, v9, v10, v11⟩ := hw
  have va : ∀ j, j ≠ 5 → j ≠ 6 → j ≠ 7 → j ≠ 8 → j ≠ 9 → j ≠ 10 → j ≠ 11 → ad4 j = ad3 j := va
  have vr : ∀ j, j ≠ 4 → j ≠ 5 → j ≠ 6 → j ≠ 7 → j ≠ 8 → j ≠ 9 → j ≠ 10 → j ≠ 11 → M4 j = M3 j := vr
  have v4 : M4 4 = some (.inr (3, [.int 0, .int 0, .int 0, .ref (ad4 5), .ref (ad4 6), .ref (ad4 7), .ref (ad4 8), .ref (ad4 9), .ref (ad4 10), .ref (ad4 11), .int 0])) := v4
  have v5 : M4 5 = some (mI cy 96 (fun _ => 0)) := v5
  have v6 : M4 6 = some (mI cy 6 (fun _ => 0)) := v6
  have v7 : M4 7 = some (mI cy 20 (fun _ => 0)) := v7
  have v8 : M4 8 = some (mI cy 20 (fun _ => 0)) := v8
  have v9 : M4 9 = some (mI cy 20 (fun _ => 0)) := v9
  have v10 : M4 10 = some (mI cy 32 (fun _ => 0)) := v10
  have v11 : M4 11 = some (mI cy 32 (fun _ => 0)) := v11
  have hE : mE G (lA s) s.heap ad4 M4 H locs := mE_call hE hB ht hS
  have va4 : ∀ j, j < 5 → ad4 j = ad3 j := fun j hj => va j (by omega) (by omega) (by omega) (by omega) (by omega) (by omega) (by omega)
  have vr4 : ∀ j, j < 4 → M4 j = M2 j := fun j hj => (vr j (by omega) (by omega) (by omega) (by omega) (by omega) (by omega) (by omega) (by omega)).trans (o3 j (by omega))
  have n4 : ∀ j, 12 ≤ j → M4 j = none := fun j hj => (vr j (by omega) (by omega) (by omega) (by omega) (by omega) (by omega) (by omega) (by omega)).trans (n3 j (by omega))
  rw [← va4 4 (by decide)]
  rw [← va4 0 (by decide)] at hl
  refine lv_astore_n (lv' := [(2, .ref (ad4 4)), (1, .ref (ad4 0)), (0, .ref b)]) hx hb dL_law_15 rfl hl (by decide) rfl (fun ls hl => ?_)
  refine lv_iconst (v := nI 1) hx hb dL_law_16 (by decide) ?_
  refine mx_newl hx hb (hts (.arrayClass .long) (by decide +kernel)) hN hE 12 (n4 12 (by decide)) (by decide) rfl (by decide) (Nat.le_of_ble_eq_true rfl) (Nat.le_of_ble_eq_true rfl) dL_law_17 (fun ad5 H hj5 hE => ?_)
  rw [← hj5 0 (by decide), ← hj5 4 (by decide)] at hl
  refine lv_astore_n (lv' := [(3, .ref (ad5 12)), (2, .ref (ad5 4)), (1, .ref (ad5 0)), (0, .ref b)]) hx hb dL_law_19 rfl hl (by decide) rfl (fun ls hl => ?_)
  refine lv_iconst (v := nI 0) hx hb dL_law_20 (by decide) ?_
  refine lv_istore (lv' := [(4, .int (nI 0)), (3, .ref (ad5 12)), (2, .ref (ad5 4)), (1, .ref (ad5 0)), (0, .ref b)]) hx hb dL_law_21 hl (by decide) rfl (fun ls hl => ?_)
  have a5 : ∀ j, 1 ≤ j → j < 4 → ad5 j = ad2 j := fun j h1 h2 => (hj5 j (by omega)).trans ((va4 j (by omega)).trans (hj3 j (by omega)))
  have a6 : ∀ j, j < 12 → ad5 j = ad4 j := fun j h1 => hj5 j (by omega)
  have hM : mU M4 12 (.inl (cy 3, 1, .inr (.inl (fun _ => 0)))) = Sy cy ad5 0 0 (fun _ _ => 0) (fun _ => 0) := by
    have q : ∀ j, j ≠ 12 → mU M4 12 (.inl (cy 3, 1, .inr (.inl (fun _ => 0)))) j = M4 j := fun j hj => mU_n _ _ hj
    refine st_begin ?_ ((q 1 (by decide)).trans ((vr4 1 (by decide)).trans w1)) ((q 2 (by decide)).trans ((vr4 2 (by decide)).trans w2)) ((q 3 (by decide)).trans ((vr4 3 (by decide)).trans w3)) ?_ ((q 5 (by decide)).trans v5) ((q 6 (by decide)).trans v6) ((q 7 (by decide)).trans v7) ((q 8 (by decide)).trans v8) ((q 9 (by decide)).trans v9) ((q 10 (by decide)).trans v10) ((q 11 (by decide)).trans v11) (mU_s _ _ _) (fun j hj => (q j (by omega)).trans (n4 j (by omega)))
    · rw [a5 1 (by decide) (by decide), a5 2 (by decide) (by decide), a5 3 (by decide) (by decide)]
      exact (q 0 (by decide)).trans ((vr4 0 (by decide)).trans w0)
    · rw [a6 5 (by decide), a6 6 (by decide), a6 7 (by decide), a6 8 (by decide), a6 9 (by decide), a6 10 (by decide), a6 11 (by decide)]
      exact (q 4 (by decide)).trans v4
  rw [hM] at hE
  refine W.widen (k := 14 + 4 * 0) (n := 400 + 60 * 0) (by decide) (by decide) ?_
  exact law_loop hst hx hb hr hml hown hts hX hbl hlocks hL hN (L + 1) 0 (by omega) (by omega) ad5 0 0 _ _ H _ ls ⟨_, st_inv⟩ hE hl
