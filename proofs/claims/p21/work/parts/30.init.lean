set_option maxHeartbeats 4000000 in
set_option maxRecDepth 100000 in
/-- the constructor of X1 -/
theorem c_X1_init (l : Launch) (G : va_G) (cy : Nat → ClassId) (ad : Nat → Nat) (M : mC) (sz : Nat) (w0 : Nat) (a b c9 : Int32) (hw0 : M w0 = some (.inr (1, [.int 0, .int 0, .int 0]))) : mMv l yX1_init wsX1_init ({ frames := 7, cells := 0, slots := 0, locals := 100 }) G cy ad M sz [.ref (ad w0), .int a, .int b, .int c9] 0 0 (fun u => u.1 = ad ∧ u.2 w0 = some (.inr (1, [.int a, .int b, .int c9])) ∧ ∀ j, j ≠ w0 → u.2 j = M j) := by
  refine Met.ofW (cc := cX1_init) (maxL := 4) (ret := none) (by decide) rfl ?_
  intro p e s m args below meth c s₁ B hml hv
  obtain ⟨rfl, hv⟩ := hv
  have hsz := hv.1
  subst hsz
  have hN := hv.2.2
  have hE := mP_E hv
  have hx := B.exec
  have hb := B.bytes
  have hr := B.returns
  have hts := atoms_spec (ws := wsX1_init) B.pre
  have hown : s.vm.findClass RX1 = some m.cls := findClass_of_methodNamed B.named
  have hlocks := B.notSynchronized
  have hin : meth.name = "<init>" := (name_of_methodNamed B.named B.method).1
  have hiX1 : ∀ w ∈ wsX10, w ∈ wsX1_init := by decide +kernel
  have hl := lv_entry ([.ref (ad w0), .int a, .int b, .int c9]) (n := 4) (Nat.le_of_ble_eq_true rfl)
  rw [lg_entry_eq]
  generalize (lg_sl ([.ref (ad w0), .int a, .int b, .int c9]) ++ List.replicate (4 - (lg_sl ([.ref (ad w0), .int a, .int b, .int c9])).length) Slot.unset).toArray = ls at hl ⊢
  have hl : lv_has ls 4 [(0, .ref (ad w0)), (1, .int a), (2, .int b), (3, .int c9)] := hl
  generalize ([.ref (ad w0), .int a, .int b, .int c9] : List Value).toArray = args at hts ⊢
  have r0 : ∀ j, j ≠ w0 → M j = M j := fun j _ => rfl
  refine lv_aload_n hx hb dX1_init_0 rfl (lv_at hl 0 rfl) ?_
  refine W.objInit hx hb hown (hts (.methodLink RX1 1 objectInit) (by decide +kernel)) (hts (.instanceMethod objectInit) (by decide +kernel)) (hts _ (List.mem_cons_of_mem _ (List.mem_append_left _ (List.mem_of_getElem? (i := 2) rfl)))) rfl (by rw [hml]; exact hl.1) rfl dX1_init_1 (Nat.le_of_ble_eq_true rfl) (Nat.le_of_ble_eq_true rfl) ?_
  refine W.eq (g2 := F0 m 4 ls []) rfl ?_
  refine lv_aload_n hx hb dX1_init_4 rfl (lv_at hl 0 rfl) ?_
  refine lv_iload_n hx hb dX1_init_5 rfl (lv_at hl 1 rfl) ?_
  refine mx_putF (ci := 1) (v := .int a) (ty := .int) (C := RX1) (T := TX1) (N := 3) hx hb hts hiX1 tyX1 tyX1_ok nmX1 hown hN hE hw0 rfl 0 (by decide) (hts (.fieldLink RX1 7 RX1 "cupboard" "I") (by decide +kernel)) (fun _ h9 => h9) rfl hin rfl (by decide +kernel) rfl rfl (Nat.le_of_ble_eq_true rfl) dX1_init_6 (fun H locs hE => ?_)
  obtain ⟨Mk1, hMk1⟩ : ∃ y99, y99 = mU M w0 (.inr (1, [.int a, .int 0, .int 0])) := ⟨_, rfl⟩
  have hE : mE G (mA ad (M) s.heap.size) s.heap ad Mk1 H locs := by rw [hMk1]; exact hE
  have kf2 : Mk1 w0 = some (.inr (1, [.int a, .int 0, .int 0])) := by rw [hMk1, mU_s]
  have r93 : ∀ j, j ≠ w0 → Mk1 j = M j := fun j a0 => (congrFun hMk1 j).trans ((mU_n _ _ a0).trans (r0 j a0))
  refine lv_aload_n hx hb dX1_init_9 rfl (lv_at hl 0 rfl) ?_
  refine lv_iload_n hx hb dX1_init_10 rfl (lv_at hl 2 rfl) ?_
  refine mx_putF (ci := 1) (v := .int b) (ty := .int) (C := RX1) (T := TX1) (N := 3) hx hb hts hiX1 tyX1 tyX1_ok nmX1 hown hN hE kf2 rfl 1 (by decide) (hts (.fieldLink RX1 13 RX1 "root" "I") (by decide +kernel)) (fun _ h9 => h9) rfl hin rfl (by decide +kernel) rfl rfl (Nat.le_of_ble_eq_true rfl) dX1_init_11 (fun H locs hE => ?_)
  obtain ⟨Mk4, hMk4⟩ : ∃ y99, y99 = mU Mk1 w0 (.inr (1, [.int a, .int b, .int 0])) := ⟨_, rfl⟩
  have hE : mE G (mA ad (M) s.heap.size) s.heap ad Mk4 H locs := by rw [hMk4]; exact hE
  have kf5 : Mk4 w0 = some (.inr (1, [.int a, .int b, .int 0])) := by rw [hMk4, mU_s]
  have r96 : ∀ j, j ≠ w0 → Mk4 j = M j := fun j a0 => (congrFun hMk4 j).trans ((mU_n _ _ a0).trans (r93 j a0))
  refine lv_aload_n hx hb dX1_init_14 rfl (lv_at hl 0 rfl) ?_
  refine lv_iload_n hx hb dX1_init_15 rfl (lv_at hl 3 rfl) ?_
  refine mx_putF (ci := 1) (v := .int c9) (ty := .int) (C := RX1) (T := TX1) (N := 3) hx hb hts hiX1 tyX1 tyX1_ok nmX1 hown hN hE kf5 rfl 2 (by decide) (hts (.fieldLink RX1 16 RX1 "changes" "I") (by decide +kernel)) (fun _ h9 => h9) rfl hin rfl (by decide +kernel) rfl rfl (Nat.le_of_ble_eq_true rfl) dX1_init_16 (fun H locs hE => ?_)
  obtain ⟨Mk7, hMk7⟩ : ∃ y99, y99 = mU Mk4 w0 (.inr (1, [.int a, .int b, .int c9])) := ⟨_, rfl⟩
  have hE : mE G (mA ad (M) s.heap.size) s.heap ad Mk7 H locs := by rw [hMk7]; exact hE
  have kf8 : Mk7 w0 = some (.inr (1, [.int a, .int b, .int c9])) := by rw [hMk7, mU_s]
  have r99 : ∀ j, j ≠ w0 → Mk7 j = M j := fun j a0 => (congrFun hMk7 j).trans ((mU_n _ _ a0).trans (r96 j a0))
  exact mx_vret hx hb hr hE hlocks ⟨rfl, kf8, r99⟩ dX1_init_19

set_option maxHeartbeats 4000000 in
set_option maxRecDepth 100000 in
/-- the constructor of X2 -/
theorem c_X2_init (l : Launch) (G : va_G) (cy : Nat → ClassId) (ad : Nat → Nat) (M : mC) (sz : Nat) (h0 : M 0 = some (.inr (2, [.null, .null, .null, .int 0, .int 0]))) (h1 : M 1 = none) (h2 : M 2 = none) (h3 : M 3 = none) : mMv l yX2_init wsX2_init ({ frames := 7, cells := 3, slots := 58, locals := 100 }) G cy ad M sz [.ref (ad 0)] 3 58 (fun u => (∀ j, j ≠ 1 → j ≠ 2 → j ≠ 3 → u.1 j = ad j) ∧ (∀ j, j ≠ 0 → j ≠ 1 → j ≠ 2 → j ≠ 3 → u.2 j = M j) ∧ u.2 0 = some (.inr (2, [.ref (u.1 1), .ref (u.1 2), .ref (u.1 3), .int 0, .int 0])) ∧ u.2 1 = some (.inl (cy 1, 6, .inr (.inr (.inr (.inr (fun _ => none)))))) ∧ u.2 2 = some (.inl (cy 2, 20, .inr (.inr (.inr (.inr (fun _ => none)))))) ∧ u.2 3 = some (mI cy 32 (fun _ => 0))) := by
  refine Met.ofW (cc := cX2_init) (maxL := 1) (ret := none) (by decide) rfl ?_
  intro p e s m args below meth c s₁ B hml hv
  obtain ⟨rfl, hv⟩ := hv
  have hsz := hv.1
  subst hsz
  have hN := hv.2.2
  have hE := mP_E hv
  have hx := B.exec
  have hb := B.bytes
  have hr := B.returns
  have hts := atoms_spec (ws := wsX2_init) B.pre
  have hown : s.vm.findClass RX2 = some m.cls := findClass_of_methodNamed B.named
  have hlocks := B.notSynchronized
  have hin : meth.name = "<init>" := (name_of_methodNamed B.named B.method).1
  have hiX2 : ∀ w ∈ wsX20, w ∈ wsX2_init := by decide +kernel
  have hl := lv_entry ([.ref (ad 0)]) (n := 1) (Nat.le_of_ble_eq_true rfl)
  rw [lg_entry_eq]
  generalize (lg_sl ([.ref (ad 0)]) ++ List.replicate (1 - (lg_sl ([.ref (ad 0)])).length) Slot.unset).toArray = ls at hl ⊢
  have hl : lv_has ls 1 [(0, .ref (ad 0))] := hl
  generalize ([.ref (ad 0)] : List Value).toArray = args at hts ⊢
  have r0 : ∀ j, j ≠ 0 → j ≠ 1 → j ≠ 2 → j ≠ 3 → M j = M j := fun j _ _ _ _ => rfl
  have q0 : ∀ j, j ≠ 1 → j ≠ 2 → j ≠ 3 → ad j = ad j := fun j _ _ _ => rfl
  refine lv_aload_n hx hb dX2_init_0 rfl (lv_at hl 0 rfl) ?_
  refine W.objInit hx hb hown (hts (.methodLink RX2 1 objectInit) (by decide +kernel)) (hts (.instanceMethod objectInit) (by decide +kernel)) (hts _ (List.mem_cons_of_mem _ (List.mem_append_left _ (List.mem_of_getElem? (i := 2) rfl)))) rfl (by rw [hml]; exact hl.1) rfl dX2_init_1 (Nat.le_of_ble_eq_true rfl) (Nat.le_of_ble_eq_true rfl) ?_
  refine W.eq (g2 := F0 m 4 ls []) rfl ?_
  have b1 : 1 < 500 := by decide
  have b2 : 2 < 500 := by decide
  have b3 : 3 < 500 := by decide
  refine lv_aload_n hx hb dX2_init_4 rfl (lv_at hl 0 rfl) ?_
  refine lv_bipush (v := nI 6) hx hb dX2_init_5 (by decide) ?_
  refine mx_newq (C := RX0) hx hb 1 rfl hown (hts (.classLink RX2 9 RX0) (by decide +kernel)) hN.2.2.1.1 hN hE 1 h1 b1 rfl (by decide) (Nat.le_of_ble_eq_true rfl) (Nat.le_of_ble_eq_true rfl) dX2_init_7 (fun ad1 H hjad1 hE => ?_)
  have e9 : ad1 0 = ad 0 := hjad1 0 (by decide)
  rw [← e9] at hl ⊢
  clear e9
  obtain ⟨Mk2, hMk2⟩ : ∃ y99, y99 = mU M 1 (.inl (cy 1, 6, .inr (.inr (.inr (.inr (fun _ => none)))))) := ⟨_, rfl⟩
  have hE : mE G (mA ad (M) s.heap.size) s.heap ad1 Mk2 H [] := by rw [hMk2]; exact hE
  have kf3 : Mk2 0 = some (.inr (2, [.null, .null, .null, .int 0, .int 0])) := by rw [hMk2, mU_n _ _ (by decide)]; exact h0
  have kf4 : Mk2 1 = some (.inl (cy 1, 6, .inr (.inr (.inr (.inr (fun _ => none)))))) := by rw [hMk2, mU_s]
  have kf5 : Mk2 2 = none := by rw [hMk2, mU_n _ _ (by decide)]; exact h2
  have kf6 : Mk2 3 = none := by rw [hMk2, mU_n _ _ (by decide)]; exact h3
  have r97 : ∀ j, j ≠ 0 → j ≠ 1 → j ≠ 2 → j ≠ 3 → Mk2 j = M j := fun j a0 a1 a2 a3 => (congrFun hMk2 j).trans ((mU_n _ _ a1).trans (r0 j a0 a1 a2 a3))
  have q98 : ∀ j, j ≠ 1 → j ≠ 2 → j ≠ 3 → ad1 j = ad j := fun j a0 a1 a2 => (hjad1 j a0).trans (q0 j a0 a1 a2)
  refine mx_putF (ci := 2) (v := .ref (ad1 1)) (ty := .array (.object "SealedCupboards$Cupboard")) (C := RX2) (T := TX2) (N := 5) hx hb hts hiX2 tyX2 tyX2_ok nmX2 hown hN hE kf3 rfl 0 (by decide) (hts (.fieldLink RX2 11 RX2 "cupboards" "[LSealedCupboards$Cupboard;") (by decide +kernel)) (fun _ h9 => h9) rfl hin rfl (by decide +kernel) rfl rfl (Nat.le_of_ble_eq_true rfl) dX2_init_10 (fun H locs hE => ?_)
  obtain ⟨Mk9, hMk9⟩ : ∃ y99, y99 = mU Mk2 0 (.inr (2, [.ref (ad1 1), .null, .null, .int 0, .int 0])) := ⟨_, rfl⟩
  have hE : mE G (mA ad (M) s.heap.size) s.heap ad1 Mk9 H locs := by rw [hMk9]; exact hE
  have kf10 : Mk9 0 = some (.inr (2, [.ref (ad1 1), .null, .null, .int 0, .int 0])) := by rw [hMk9, mU_s]
  have kf11 : Mk9 1 = some (.inl (cy 1, 6, .inr (.inr (.inr (.inr (fun _ => none)))))) := by rw [hMk9, mU_n _ _ (by decide)]; exact kf4
  have kf12 : Mk9 2 = none := by rw [hMk9, mU_n _ _ (by decide)]; exact kf5
  have kf13 : Mk9 3 = none := by rw [hMk9, mU_n _ _ (by decide)]; exact kf6
  have r914 : ∀ j, j ≠ 0 → j ≠ 1 → j ≠ 2 → j ≠ 3 → Mk9 j = M j := fun j a0 a1 a2 a3 => (congrFun hMk9 j).trans ((mU_n _ _ a0).trans (r97 j a0 a1 a2 a3))
  refine lv_aload_n hx hb dX2_init_13 rfl (lv_at hl 0 rfl) ?_
  refine lv_bipush (v := nI 20) hx hb dX2_init_14 (by decide) ?_
  refine mx_newq (C := RX1) hx hb 2 rfl hown (hts (.classLink RX2 15 RX1) (by decide +kernel)) hN.2.2.1.2 hN hE 2 kf12 b2 rfl (by decide) (Nat.le_of_ble_eq_true rfl) (Nat.le_of_ble_eq_true rfl) dX2_init_16 (fun ad15 H hjad15 hE => ?_)
  have e9 : ad15 0 = ad1 0 := hjad15 0 (by decide)
  rw [← e9] at hl ⊢
  clear e9
  obtain ⟨Mk16, hMk16⟩ : ∃ y99, y99 = mU Mk9 2 (.inl (cy 2, 20, .inr (.inr (.inr (.inr (fun _ => none)))))) := ⟨_, rfl⟩
  have hE : mE G (mA ad (M) s.heap.size) s.heap ad15 Mk16 H locs := by rw [hMk16]; exact hE
  have kf17 : Mk16 0 = some (.inr (2, [.ref (ad15 1), .null, .null, .int 0, .int 0])) := by rw [hMk16, mU_n _ _ (by decide), hjad15 1 (by decide)]; exact kf10
  have kf18 : Mk16 1 = some (.inl (cy 1, 6, .inr (.inr (.inr (.inr (fun _ => none)))))) := by rw [hMk16, mU_n _ _ (by decide)]; exact kf11
  have kf19 : Mk16 2 = some (.inl (cy 2, 20, .inr (.inr (.inr (.inr (fun _ => none)))))) := by rw [hMk16, mU_s]
  have kf20 : Mk16 3 = none := by rw [hMk16, mU_n _ _ (by decide)]; exact kf13
  have r921 : ∀ j, j ≠ 0 → j ≠ 1 → j ≠ 2 → j ≠ 3 → Mk16 j = M j := fun j a0 a1 a2 a3 => (congrFun hMk16 j).trans ((mU_n _ _ a2).trans (r914 j a0 a1 a2 a3))
  have q922 : ∀ j, j ≠ 1 → j ≠ 2 → j ≠ 3 → ad15 j = ad j := fun j a0 a1 a2 => (hjad15 j a1).trans (q98 j a0 a1 a2)
  refine mx_putF (ci := 2) (v := .ref (ad15 2)) (ty := .array (.object "SealedCupboards$Seal")) (C := RX2) (T := TX2) (N := 5) hx hb hts hiX2 tyX2 tyX2_ok nmX2 hown hN hE kf17 rfl 1 (by decide) (hts (.fieldLink RX2 17 RX2 "seals" "[LSealedCupboards$Seal;") (by decide +kernel)) (fun _ h9 => h9) rfl hin rfl (by decide +kernel) rfl rfl (Nat.le_of_ble_eq_true rfl) dX2_init_19 (fun H locs hE => ?_)
  obtain ⟨Mk23, hMk23⟩ : ∃ y99, y99 = mU Mk16 0 (.inr (2, [.ref (ad15 1), .ref (ad15 2), .null, .int 0, .int 0])) := ⟨_, rfl⟩
  have hE : mE G (mA ad (M) s.heap.size) s.heap ad15 Mk23 H locs := by rw [hMk23]; exact hE
  have kf24 : Mk23 0 = some (.inr (2, [.ref (ad15 1), .ref (ad15 2), .null, .int 0, .int 0])) := by rw [hMk23, mU_s]
  have kf25 : Mk23 1 = some (.inl (cy 1, 6, .inr (.inr (.inr (.inr (fun _ => none)))))) := by rw [hMk23, mU_n _ _ (by decide)]; exact kf18
  have kf26 : Mk23 2 = some (.inl (cy 2, 20, .inr (.inr (.inr (.inr (fun _ => none)))))) := by rw [hMk23, mU_n _ _ (by decide)]; exact kf19
  have kf27 : Mk23 3 = none := by rw [hMk23, mU_n _ _ (by decide)]; exact kf20
  have r928 : ∀ j, j ≠ 0 → j ≠ 1 → j ≠ 2 → j ≠ 3 → Mk23 j = M j := fun j a0 a1 a2 a3 => (congrFun hMk23 j).trans ((mU_n _ _ a0).trans (r921 j a0 a1 a2 a3))
  refine lv_aload_n hx hb dX2_init_22 rfl (lv_at hl 0 rfl) ?_
  refine lv_bipush (v := nI 32) hx hb dX2_init_23 (by decide) ?_
  refine mx_newi hx hb (hts (.arrayClass .int) (by decide +kernel)) hN hE 3 kf27 b3 rfl (by decide) (Nat.le_of_ble_eq_true rfl) (Nat.le_of_ble_eq_true rfl) dX2_init_25 (fun ad29 H hjad29 hE => ?_)
  have e9 : ad29 0 = ad15 0 := hjad29 0 (by decide)
  rw [← e9] at hl ⊢
  clear e9
  obtain ⟨Mk30, hMk30⟩ : ∃ y99, y99 = mU Mk23 3 (mI cy 32 (fun _ => 0)) := ⟨_, rfl⟩
  have hE : mE G (mA ad (M) s.heap.size) s.heap ad29 Mk30 H locs := by rw [hMk30]; exact hE
  have kf31 : Mk30 0 = some (.inr (2, [.ref (ad29 1), .ref (ad29 2), .null, .int 0, .int 0])) := by rw [hMk30, mU_n _ _ (by decide), hjad29 1 (by decide), hjad29 2 (by decide)]; exact kf24
  have kf32 : Mk30 1 = some (.inl (cy 1, 6, .inr (.inr (.inr (.inr (fun _ => none)))))) := by rw [hMk30, mU_n _ _ (by decide)]; exact kf25
  have kf33 : Mk30 2 = some (.inl (cy 2, 20, .inr (.inr (.inr (.inr (fun _ => none)))))) := by rw [hMk30, mU_n _ _ (by decide)]; exact kf26
  have kf34 : Mk30 3 = some (mI cy 32 (fun _ => 0)) := by rw [hMk30, mU_s]
  have r935 : ∀ j, j ≠ 0 → j ≠ 1 → j ≠ 2 → j ≠ 3 → Mk30 j = M j := fun j a0 a1 a2 a3 => (congrFun hMk30 j).trans ((mU_n _ _ a3).trans (r928 j a0 a1 a2 a3))
  have q936 : ∀ j, j ≠ 1 → j ≠ 2 → j ≠ 3 → ad29 j = ad j := fun j a0 a1 a2 => (hjad29 j a2).trans (q922 j a0 a1 a2)
  refine mx_putF (ci := 2) (v := .ref (ad29 3)) (ty := .array .int) (C := RX2) (T := TX2) (N := 5) hx hb hts hiX2 tyX2 tyX2_ok nmX2 hown hN hE kf31 rfl 2 (by decide) (hts (.fieldLink RX2 21 RX2 "spareSums" "[I") (by decide +kernel)) (fun _ h9 => h9) rfl hin rfl (by decide +kernel) rfl rfl (Nat.le_of_ble_eq_true rfl) dX2_init_27 (fun H locs hE => ?_)
  obtain ⟨Mk37, hMk37⟩ : ∃ y99, y99 = mU Mk30 0 (.inr (2, [.ref (ad29 1), .ref (ad29 2), .ref (ad29 3), .int 0, .int 0])) := ⟨_, rfl⟩
  have hE : mE G (mA ad (M) s.heap.size) s.heap ad29 Mk37 H locs := by rw [hMk37]; exact hE
  have kf38 : Mk37 0 = some (.inr (2, [.ref (ad29 1), .ref (ad29 2), .ref (ad29 3), .int 0, .int 0])) := by rw [hMk37, mU_s]
  have kf39 : Mk37 1 = some (.inl (cy 1, 6, .inr (.inr (.inr (.inr (fun _ => none)))))) := by rw [hMk37, mU_n _ _ (by decide)]; exact kf32
  have kf40 : Mk37 2 = some (.inl (cy 2, 20, .inr (.inr (.inr (.inr (fun _ => none)))))) := by rw [hMk37, mU_n _ _ (by decide)]; exact kf33
  have kf41 : Mk37 3 = some (mI cy 32 (fun _ => 0)) := by rw [hMk37, mU_n _ _ (by decide)]; exact kf34
  have r942 : ∀ j, j ≠ 0 → j ≠ 1 → j ≠ 2 → j ≠ 3 → Mk37 j = M j := fun j a0 a1 a2 a3 => (congrFun hMk37 j).trans ((mU_n _ _ a0).trans (r935 j a0 a1 a2 a3))
  exact mx_vret hx hb hr hE hlocks ⟨q936, r942, kf38, kf39, kf40, kf41⟩ dX2_init_30

set_option maxHeartbeats 4000000 in
set_option maxRecDepth 100000 in
/-- the constructor of X0 -/
theorem c_X0_init (l : Launch) (G : va_G) (cy : Nat → ClassId) (ad : Nat → Nat) (M : mC) (sz : Nat) (w0 w1 w2 : Nat) (hw0 : M w0 = some (.inr (0, [.null, .null, .int 0]))) (hw1 : M w1 = none) (hw2 : M w2 = none) (h12 : w1 ≠ w2) (bw1 : w1 < 500) (bw2 : w2 < 500) : mMv l yX0_init wsX0_init ({ frames := 8, cells := 2, slots := 48, locals := 140 }) G cy ad M sz [.ref (ad w0)] 2 48 (fun u => (∀ j, j ≠ w1 → j ≠ w2 → u.1 j = ad j) ∧ u.2 w0 = some (.inr (0, [.ref (u.1 w1), .ref (u.1 w2), .int 0])) ∧ u.2 w1 = some (mI cy 16 (fun _ => 0)) ∧ (∃ g : Nat → Int32, u.2 w2 = some (mI cy 32 g) ∧ mCon g (fun _ => 0)) ∧ ∀ j, j ≠ w0 → j ≠ w1 → j ≠ w2 → u.2 j = M j) := by
  refine Met.ofW (cc := cX0_init) (maxL := 2) (ret := none) (by decide) rfl ?_
  intro p e s m args below meth c s₁ B hml hv
  obtain ⟨rfl, hv⟩ := hv
  have hsz := hv.1
  subst hsz
  have hN := hv.2.2
  have hE := mP_E hv
  have hx := B.exec
  have hb := B.bytes
  have hr := B.returns
  have hts := atoms_spec (ws := wsX0_init) B.pre
  have hown : s.vm.findClass RX0 = some m.cls := findClass_of_methodNamed B.named
  have hlocks := B.notSynchronized
  have hin : meth.name = "<init>" := (name_of_methodNamed B.named B.method).1
  have hiX0 : ∀ w ∈ wsX00, w ∈ wsX0_init := by decide +kernel
  have hl := lv_entry ([.ref (ad w0)]) (n := 2) (Nat.le_of_ble_eq_true rfl)
  rw [lg_entry_eq]
  generalize (lg_sl ([.ref (ad w0)]) ++ List.replicate (2 - (lg_sl ([.ref (ad w0)])).length) Slot.unset).toArray = ls at hl ⊢
  have hl : lv_has ls 2 [(0, .ref (ad w0))] := hl
  generalize ([.ref (ad w0)] : List Value).toArray = args at hts ⊢
  have r0 : ∀ j, j ≠ w0 → j ≠ w1 → j ≠ w2 → M j = M j := fun j _ _ _ => rfl
  have q0 : ∀ j, j ≠ w1 → j ≠ w2 → ad j = ad j := fun j _ _ => rfl
  refine lv_aload_n hx hb dX0_init_0 rfl (lv_at hl 0 rfl) ?_
  refine W.objInit hx hb hown (hts (.methodLink RX0 3 objectInit) (by decide +kernel)) (hts (.instanceMethod objectInit) (by decide +kernel)) (hts _ (List.mem_cons_of_mem _ (List.mem_append_left _ (List.mem_of_getElem? (i := 2) rfl)))) rfl (by rw [hml]; exact hl.1) rfl dX0_init_1 (Nat.le_of_ble_eq_true rfl) (Nat.le_of_ble_eq_true rfl) ?_
  refine W.eq (g2 := F0 m 4 ls []) rfl ?_
  have n01 : w0 ≠ w1 := fun h => by rw [h, hw1] at hw0; cases hw0
  have n02 : w0 ≠ w2 := fun h => by rw [h, hw2] at hw0; cases hw0
  refine lv_aload_n hx hb dX0_init_4 rfl (lv_at hl 0 rfl) ?_
  refine lv_bipush (v := nI 16) hx hb dX0_init_5 (by decide) ?_
  refine mx_newi hx hb (hts (.arrayClass .int) (by decide +kernel)) hN hE w1 hw1 bw1 rfl (by decide) (Nat.le_of_ble_eq_true rfl) (Nat.le_of_ble_eq_true rfl) dX0_init_7 (fun ad1 H hjad1 hE => ?_)
  have e9 : ad1 w0 = ad w0 := hjad1 w0 n01
  rw [← e9] at hl ⊢
  clear e9
  obtain ⟨Mk2, hMk2⟩ : ∃ y99, y99 = mU M w1 (mI cy 16 (fun _ => 0)) := ⟨_, rfl⟩
  have hE : mE G (mA ad (M) s.heap.size) s.heap ad1 Mk2 H [] := by rw [hMk2]; exact hE
  have kf3 : Mk2 w0 = some (.inr (0, [.null, .null, .int 0])) := by rw [hMk2, mU_n _ _ n01]; exact hw0
  have kf4 : Mk2 w1 = some (mI cy 16 (fun _ => 0)) := by rw [hMk2, mU_s]
  have kf5 : Mk2 w2 = none := by rw [hMk2, mU_n _ _ h12.symm]; exact hw2
  have r96 : ∀ j, j ≠ w0 → j ≠ w1 → j ≠ w2 → Mk2 j = M j := fun j a0 a1 a2 => (congrFun hMk2 j).trans ((mU_n _ _ a1).trans (r0 j a0 a1 a2))
  have q97 : ∀ j, j ≠ w1 → j ≠ w2 → ad1 j = ad j := fun j a0 a1 => (hjad1 j a0).trans (q0 j a0 a1)
  refine mx_putF (ci := 0) (v := .ref (ad1 w1)) (ty := .array .int) (C := RX0) (T := TX0) (N := 3) hx hb hts hiX0 tyX0 tyX0_ok nmX0 hown hN hE kf3 rfl 0 (by decide) (hts (.fieldLink RX0 9 RX0 "things" "[I") (by decide +kernel)) (fun _ h9 => h9) rfl hin rfl (by decide +kernel) rfl rfl (Nat.le_of_ble_eq_true rfl) dX0_init_9 (fun H locs hE => ?_)
  obtain ⟨Mk8, hMk8⟩ : ∃ y99, y99 = mU Mk2 w0 (.inr (0, [.ref (ad1 w1), .null, .int 0])) := ⟨_, rfl⟩
  have hE : mE G (mA ad (M) s.heap.size) s.heap ad1 Mk8 H locs := by rw [hMk8]; exact hE
  have kf9 : Mk8 w0 = some (.inr (0, [.ref (ad1 w1), .null, .int 0])) := by rw [hMk8, mU_s]
  have kf10 : Mk8 w1 = some (mI cy 16 (fun _ => 0)) := by rw [hMk8, mU_n _ _ n01.symm]; exact kf4
  have kf11 : Mk8 w2 = none := by rw [hMk8, mU_n _ _ n02.symm]; exact kf5
  have r912 : ∀ j, j ≠ w0 → j ≠ w1 → j ≠ w2 → Mk8 j = M j := fun j a0 a1 a2 => (congrFun hMk8 j).trans ((mU_n _ _ a0).trans (r96 j a0 a1 a2))
  refine lv_aload_n hx hb dX0_init_12 rfl (lv_at hl 0 rfl) ?_
  refine lv_bipush (v := nI 32) hx hb dX0_init_13 (by decide) ?_
  refine mx_newi hx hb (hts (.arrayClass .int) (by decide +kernel)) hN hE w2 kf11 bw2 rfl (by decide) (Nat.le_of_ble_eq_true rfl) (Nat.le_of_ble_eq_true rfl) dX0_init_15 (fun ad13 H hjad13 hE => ?_)
  have e9 : ad13 w0 = ad1 w0 := hjad13 w0 n02
  rw [← e9] at hl ⊢
  clear e9
  obtain ⟨Mk14, hMk14⟩ : ∃ y99, y99 = mU Mk8 w2 (mI cy 32 (fun _ => 0)) := ⟨_, rfl⟩
  have hE : mE G (mA ad (M) s.heap.size) s.heap ad13 Mk14 H locs := by rw [hMk14]; exact hE
  have kf15 : Mk14 w0 = some (.inr (0, [.ref (ad13 w1), .null, .int 0])) := by rw [hMk14, mU_n _ _ n02, hjad13 w1 h12]; exact kf9
  have kf16 : Mk14 w1 = some (mI cy 16 (fun _ => 0)) := by rw [hMk14, mU_n _ _ h12]; exact kf10
  have kf17 : Mk14 w2 = some (mI cy 32 (fun _ => 0)) := by rw [hMk14, mU_s]
  have r918 : ∀ j, j ≠ w0 → j ≠ w1 → j ≠ w2 → Mk14 j = M j := fun j a0 a1 a2 => (congrFun hMk14 j).trans ((mU_n _ _ a2).trans (r912 j a0 a1 a2))
  have q919 : ∀ j, j ≠ w1 → j ≠ w2 → ad13 j = ad j := fun j a0 a1 => (hjad13 j a1).trans (q97 j a0 a1)
  refine mx_putF (ci := 0) (v := .ref (ad13 w2)) (ty := .array .int) (C := RX0) (T := TX0) (N := 3) hx hb hts hiX0 tyX0 tyX0_ok nmX0 hown hN hE kf15 rfl 1 (by decide) (hts (.fieldLink RX0 15 RX0 "sums" "[I") (by decide +kernel)) (fun _ h9 => h9) rfl hin rfl (by decide +kernel) rfl rfl (Nat.le_of_ble_eq_true rfl) dX0_init_17 (fun H locs hE => ?_)
  obtain ⟨Mk20, hMk20⟩ : ∃ y99, y99 = mU Mk14 w0 (.inr (0, [.ref (ad13 w1), .ref (ad13 w2), .int 0])) := ⟨_, rfl⟩
  have hE : mE G (mA ad (M) s.heap.size) s.heap ad13 Mk20 H locs := by rw [hMk20]; exact hE
  have kf21 : Mk20 w0 = some (.inr (0, [.ref (ad13 w1), .ref (ad13 w2), .int 0])) := by rw [hMk20, mU_s]
  have kf22 : Mk20 w1 = some (mI cy 16 (fun _ => 0)) := by rw [hMk20, mU_n _ _ n01.symm]; exact kf16
  have kf23 : Mk20 w2 = some (mI cy 32 (fun _ => 0)) := by rw [hMk20, mU_n _ _ n02.symm]; exact kf17
  have r924 : ∀ j, j ≠ w0 → j ≠ w1 → j ≠ w2 → Mk20 j = M j := fun j a0 a1 a2 => (congrFun hMk20 j).trans ((mU_n _ _ a0).trans (r918 j a0 a1 a2))
  rw [← mU_id kf23] at hE
  refine lv_iconst (v := nI 0) hx hb dX0_init_20 (by decide) ?_
  refine lv_istore_n (lv' := [(1, .int (nI 0)), (0, .ref (ad13 w0))]) hx hb dX0_init_21 rfl hl (by decide) rfl (fun ls hl => ?_)
  refine mx_loop (β := Nat × (Nat → Int32)) (fun n9 (bb9 : Nat × (Nat → Int32)) H locs ls => (fun (d : Nat) (g : Nat → Int32) => n9 = 16 - d ∧ (d ≤ 16 ∧ ∀ e, e < d → g (16 + e) = mLeaf (nI e) 0) ∧ mE G (mA ad (M) s.heap.size) s.heap ad13 (mU Mk20 w2 (mI cy 32 g)) H locs ∧ lv_has ls 2 [(1, .int (nI d)), (0, .ref (ad13 w0))]) (bb9.1) (bb9.2)) ?_ (16 - 0) (0, fun _ => 0) _ _ _ ⟨rfl, ⟨by omega, fun e h => absurd h (Nat.not_lt_zero e)⟩, hE, lv_sub hl [0, 1] rfl⟩
  intro n9 bb9 H locs ls hI ih1
  obtain ⟨d, g⟩ := bb9
  obtain ⟨hn2, ⟨hle, hlf⟩, hE, hl⟩ := hI
  have hE : mE G (mA ad (M) s.heap.size) s.heap ad13 (mU Mk20 w2 (mI cy 32 g)) H locs := hE
  have hl : lv_has ls 2 [(1, .int (nI d)), (0, .ref (ad13 w0))] := hl
  refine lv_iload_n hx hb dX0_init_22 rfl (lv_at hl 0 rfl) ?_
  refine lv_bipush (v := nI 16) hx hb dX0_init_23 (by decide) ?_
  refine mv_ge (tgt := 48) hx hb (by omega) (by omega) dX0_init_25 (by decide) (fun c3 => ?_) (fun c3 => ?_)
  · skip
    refine lv_bipush (v := nI 15) hx hb dX0_init_48 (by decide) ?_
    refine lv_istore_n (lv' := [(1, .int (nI 15)), (0, .ref (ad13 w0))]) hx hb dX0_init_50 rfl hl (by decide) rfl (fun ls hl => ?_)
    refine mx_loop (β := Nat × (Nat → Int32)) (fun n9 (bb9 : Nat × (Nat → Int32)) H locs ls => (fun (z : Nat) (g : Nat → Int32) => n9 = z ∧ (z ≤ 15 ∧ (∀ e, e < 16 → g (16 + e) = mLeaf (nI e) 0) ∧ ∀ q, z < q → q < 16 → g q = mJoin (g (2 * q)) (g (2 * q + 1)) (nI q)) ∧ mE G (mA ad (M) s.heap.size) s.heap ad13 (mU Mk20 w2 (mI cy 32 g)) H locs ∧ lv_has ls 2 [(1, .int (nI z)), (0, .ref (ad13 w0))]) (bb9.1) (bb9.2)) ?_ (15) (15, g) _ _ _ ⟨rfl, ⟨by omega, fun e h => hlf e (by omega), fun q h1 h2 => by omega⟩, hE, lv_sub hl [0, 1] rfl⟩
    intro n9 bb9 H locs ls hI ih4
    obtain ⟨z, g⟩ := bb9
    obtain ⟨hn5, ⟨hle, hlf, hjn⟩, hE, hl⟩ := hI
    have hE : mE G (mA ad (M) s.heap.size) s.heap ad13 (mU Mk20 w2 (mI cy 32 g)) H locs := hE
    have hl : lv_has ls 2 [(1, .int (nI z)), (0, .ref (ad13 w0))] := hl
    refine lv_iload_n hx hb dX0_init_51 rfl (lv_at hl 0 rfl) ?_
    refine lv_iconst (v := nI 1) hx hb dX0_init_52 (by decide) ?_
    refine mv_lt (tgt := 90) hx hb (by omega) (by omega) dX0_init_53 (by decide) (fun c6 => ?_) (fun c6 => ?_)
    · skip
      exact mx_vret hx hb hr hE hlocks ⟨q919, (mU_n _ _ n02).trans kf21, (mU_n _ _ h12).trans kf22, ⟨g, mU_s _ _ _, hlf, fun q h1 h2 => hjn q (by omega) h2⟩, fun j a0 a1 a2 => (mU_n _ _ a2).trans (r924 j a0 a1 a2)⟩ dX0_init_90
    · skip
      refine lv_aload_n hx hb dX0_init_56 rfl (lv_at hl 1 rfl) ?_
      refine va_get (D := G) (ci := 0) (v := .ref (ad13 w2)) (C := RX0) (T := TX0) (N := 3) hx hb hts hiX0 hown hN.1 (mE_P1 hE ((mU_n _ _ n02).trans kf21)) 0 rfl rfl 1 (by decide) (hts (.fieldLink RX0 15 "SealedCupboards$Cupboard" "sums" "[I") (by decide +kernel)) (fun _ h9 => h9) rfl dX0_init_57 ?_
      refine lv_iload_n hx hb dX0_init_60 rfl (lv_at hl 0 rfl) ?_
      refine lv_aload_n hx hb dX0_init_61 rfl (lv_at hl 1 rfl) ?_
      refine va_get (D := G) (ci := 0) (v := .ref (ad13 w2)) (C := RX0) (T := TX0) (N := 3) hx hb hts hiX0 hown hN.1 (mE_P1 hE ((mU_n _ _ n02).trans kf21)) 0 rfl rfl 1 (by decide) (hts (.fieldLink RX0 15 "SealedCupboards$Cupboard" "sums" "[I") (by decide +kernel)) (fun _ h9 => h9) rfl dX0_init_62 ?_
      refine lv_iconst (v := nI 2) hx hb dX0_init_65 (by decide) ?_
      refine lv_iload_n hx hb dX0_init_66 rfl (lv_at hl 0 rfl) ?_
      refine mv_imul (z := nI (2 * z)) hx hb (pk_mul _ _) dX0_init_67 ?_
      refine mx_iald hx hb hN hE (mU_s _ _ _) (j := 2 * z) rfl (by omega) (by decide) dX0_init_68 ?_
      refine lv_aload_n hx hb dX0_init_69 rfl (lv_at hl 1 rfl) ?_
      refine va_get (D := G) (ci := 0) (v := .ref (ad13 w2)) (C := RX0) (T := TX0) (N := 3) hx hb hts hiX0 hown hN.1 (mE_P1 hE ((mU_n _ _ n02).trans kf21)) 0 rfl rfl 1 (by decide) (hts (.fieldLink RX0 15 "SealedCupboards$Cupboard" "sums" "[I") (by decide +kernel)) (fun _ h9 => h9) rfl dX0_init_70 ?_
      refine lv_iconst (v := nI 2) hx hb dX0_init_73 (by decide) ?_
      refine lv_iload_n hx hb dX0_init_74 rfl (lv_at hl 0 rfl) ?_
      refine mv_imul (z := nI (2 * z)) hx hb (pk_mul _ _) dX0_init_75 ?_
      refine lv_iconst (v := nI 1) hx hb dX0_init_76 (by decide) ?_
      refine mv_iadd (z := nI ((2 * z) + 1)) hx hb (nI_add _ _) dX0_init_77 ?_
      refine mx_iald hx hb hN hE (mU_s _ _ _) (j := (2 * z) + 1) rfl (by omega) (by decide) dX0_init_78 ?_
      refine lv_iload_n hx hb dX0_init_79 rfl (lv_at hl 0 rfl) ?_
      refine va_calli (va_runSN (As := [.int (g (2 * z)), .int (g ((2 * z) + 1)), .int (nI z)]) (rest := [.int (nI z), .ref (ad13 w2)]) ⟨hx, hb, hml, hown, hts⟩ (c_X2_sumOfSums l G cy ad13 (mU Mk20 w2 (mI cy 32 g)) _ (g (2 * z)) (g ((2 * z) + 1)) (nI z)) ⟨va_cnB 3 hts gX0_init_X2_sumOfSums_n22 rfl rfl rfl (hN.2.1 (.methodLinkNest RX0 22 yX2_sumOfSums RX2) (by decide +kernel)) (hts (.initialized RX2) (by decide +kernel)) (by decide +kernel) ⟨Nat.le_of_ble_eq_true rfl, Nat.le_of_ble_eq_true rfl⟩, (hts (.static yX2_sumOfSums) (by decide +kernel)), trivial⟩ (mP_S hN hE) rfl rfl hl.1 rfl (lv_room (Nat.le_of_ble_eq_true rfl)) dX0_init_80 ⟨Nat.le_of_ble_eq_true rfl, Nat.le_of_ble_eq_true rfl⟩) hE.2.2.2 (fun q _ h => mE_A hE q h) (mE_A hE) (fun r uq tq H locs ht hvm hw hB hz1 hk1 hS => ?_)
      obtain ⟨rfl, rfl⟩ := hw
      have hE : mE G (mA ad (M) s.heap.size) s.heap ad13 (mU Mk20 w2 (mI cy 32 g)) H locs := mE_call hE hB ht hS
      refine mx_iast hx hb hN hE (mU_s _ _ _) (j := z) rfl (by omega) (by decide) dX0_init_83 (fun H locs hE => ?_)
      have hE : mE G (mA ad (M) s.heap.size) s.heap ad13 (mU Mk20 w2 (mI cy 32 (upd (g) z (mJoin (g (2 * z)) (g ((2 * z) + 1)) (nI z))))) H locs := by rw [mU_uu] at hE; exact hE
      refine lv_iinc (v := nI (z - 1)) (lv' := [(1, .int (nI (z - 1))), (0, .ref (ad13 w0))]) hx hb dX0_init_84 hl (k := 0) rfl (by exact sb_m1 (by omega)) (by decide) rfl (fun ls hl => ?_)
      refine lv_goto (tgt := 51) hx hb dX0_init_87 (by decide) ?_
      exact ih4 (z - 1) (z - 1, (upd (g) z (mJoin (g (2 * z)) (g ((2 * z) + 1)) (nI z)))) _ _ _ (by rw [hn5]; omega) ⟨rfl, ⟨by omega, fun e h => by (try dsimp only); rw [upd_n _ _ (by omega)]; exact hlf e h, fun q h1 h2 => if h9 : q = z then by (try dsimp only); rw [h9, upd_s, upd_n _ _ (by omega), upd_n _ _ (by omega)] else by (try dsimp only); rw [upd_n _ _ h9, upd_n _ _ (by omega), upd_n _ _ (by omega)]; exact hjn q (by omega) h2⟩, hE, lv_sub hl [0, 1] rfl⟩
  · skip
    refine lv_aload_n hx hb dX0_init_28 rfl (lv_at hl 1 rfl) ?_
    refine va_get (D := G) (ci := 0) (v := .ref (ad13 w2)) (C := RX0) (T := TX0) (N := 3) hx hb hts hiX0 hown hN.1 (mE_P1 hE ((mU_n _ _ n02).trans kf21)) 0 rfl rfl 1 (by decide) (hts (.fieldLink RX0 15 "SealedCupboards$Cupboard" "sums" "[I") (by decide +kernel)) (fun _ h9 => h9) rfl dX0_init_29 ?_
    refine lv_bipush (v := nI 16) hx hb dX0_init_32 (by decide) ?_
    refine lv_iload_n hx hb dX0_init_34 rfl (lv_at hl 0 rfl) ?_
    refine mv_iadd (z := nI (16 + d)) hx hb (nI_add _ _) dX0_init_35 ?_
    refine lv_iload_n hx hb dX0_init_36 rfl (lv_at hl 0 rfl) ?_
    refine lv_iconst (v := nI 0) hx hb dX0_init_37 (by decide) ?_
    refine va_calli (va_runSN (As := [.int (nI d), .int (nI 0)]) (rest := [.int (nI (16 + d)), .ref (ad13 w2)]) ⟨hx, hb, hml, hown, hts⟩ (c_X2_sumOfThing l G cy ad13 (mU Mk20 w2 (mI cy 32 g)) _ (nI d) (nI 0)) ⟨va_cnB 2 hts gX0_init_X2_sumOfThing_n18 rfl rfl rfl (hN.2.1 (.methodLinkNest RX0 18 yX2_sumOfThing RX2) (by decide +kernel)) (hts (.initialized RX2) (by decide +kernel)) (by decide +kernel) ⟨Nat.le_of_ble_eq_true rfl, Nat.le_of_ble_eq_true rfl⟩, (hts (.static yX2_sumOfThing) (by decide +kernel)), trivial⟩ (mP_S hN hE) rfl rfl hl.1 rfl (lv_room (Nat.le_of_ble_eq_true rfl)) dX0_init_38 ⟨Nat.le_of_ble_eq_true rfl, Nat.le_of_ble_eq_true rfl⟩) hE.2.2.2 (fun q _ h => mE_A hE q h) (mE_A hE) (fun r uq tq H locs ht hvm hw hB hz1 hk1 hS => ?_)
    obtain ⟨rfl, rfl⟩ := hw
    have hE : mE G (mA ad (M) s.heap.size) s.heap ad13 (mU Mk20 w2 (mI cy 32 g)) H locs := mE_call hE hB ht hS
    refine mx_iast hx hb hN hE (mU_s _ _ _) (j := 16 + d) rfl (by omega) (by decide) dX0_init_41 (fun H locs hE => ?_)
    have hE : mE G (mA ad (M) s.heap.size) s.heap ad13 (mU Mk20 w2 (mI cy 32 (upd (g) (16 + d) (mLeaf (nI d) (nI 0))))) H locs := by rw [mU_uu] at hE; exact hE
    refine lv_iinc (v := nI (d + 1)) (lv' := [(1, .int (nI (d + 1))), (0, .ref (ad13 w0))]) hx hb dX0_init_42 hl (k := 0) rfl (nI_add _ _) (by decide) rfl (fun ls hl => ?_)
    refine lv_goto (tgt := 22) hx hb dX0_init_45 (by decide) ?_
    exact ih1 (16 - (d + 1)) (d + 1, (upd (g) (16 + d) (mLeaf (nI d) (nI 0)))) _ _ _ (by rw [hn2]; omega) ⟨rfl, ⟨by omega, fun e h => if h9 : e = d then by (try dsimp only); rw [h9, upd_s, nI_0] else by (try dsimp only); rw [upd_n _ _ (by omega)]; exact hlf e (by omega)⟩, hE, lv_sub hl [0, 1] rfl⟩
