set_option maxHeartbeats 4000000 in
set_option maxRecDepth 100000 in
/-- the constructor of X3 -/
theorem c_X3_init (l : Launch) (G : va_G) (cy : Nat → ClassId) (ad : Nat → Nat) (M : mC) (sz : Nat) (h4 : M 4 = some (.inr (3, [.null, .null, .null]))) (h5 : M 5 = none) (h6 : M 6 = none) (h7 : M 7 = none) : mMv l yX3_init wsX3_init ({ frames := 7, cells := 3, slots := 6, locals := 100 }) G cy ad M sz [.ref (ad 4)] 3 6 (fun u => (∀ j, j ≠ 5 → j ≠ 6 → j ≠ 7 → u.1 j = ad j) ∧ (∀ j, j ≠ 4 → j ≠ 5 → j ≠ 6 → j ≠ 7 → u.2 j = M j) ∧ u.2 4 = some (.inr (3, [.ref (u.1 5), .ref (u.1 6), .ref (u.1 7)])) ∧ u.2 5 = some (.inl (cy 3, 0, .inr (.inr (.inr (.inr (fun _ => none)))))) ∧ u.2 6 = some (.inl (cy 3, 0, .inr (.inr (.inr (.inr (fun _ => none)))))) ∧ u.2 7 = some (mI cy 6 (fun _ => 0))) := by
  refine Met.ofW (cc := cX3_init) (maxL := 1) (ret := none) (by decide) rfl ?_
  intro p e s m args below meth c s₁ B hml hv
  obtain ⟨rfl, hv⟩ := hv
  have hsz := hv.1
  subst hsz
  have hN := hv.2.2
  have hE := mP_E hv
  have hx := B.exec
  have hb := B.bytes
  have hr := B.returns
  have hts := atoms_spec (ws := wsX3_init) B.pre
  have hown : s.vm.findClass RX3 = some m.cls := findClass_of_methodNamed B.named
  have hlocks := B.notSynchronized
  have hin : meth.name = "<init>" := (name_of_methodNamed B.named B.method).1
  have hiX3 : ∀ w ∈ wsX30, w ∈ wsX3_init := by decide +kernel
  have hl := lv_entry ([.ref (ad 4)]) (n := 1) (Nat.le_of_ble_eq_true rfl)
  rw [lg_entry_eq]
  generalize (lg_sl ([.ref (ad 4)]) ++ List.replicate (1 - (lg_sl ([.ref (ad 4)])).length) Slot.unset).toArray = ls at hl ⊢
  have hl : lv_has ls 1 [(0, .ref (ad 4))] := hl
  generalize ([.ref (ad 4)] : List Value).toArray = args at hts ⊢
  have r0 : ∀ j, j ≠ 4 → j ≠ 5 → j ≠ 6 → j ≠ 7 → M j = M j := fun j _ _ _ _ => rfl
  have q0 : ∀ j, j ≠ 5 → j ≠ 6 → j ≠ 7 → ad j = ad j := fun j _ _ _ => rfl
  refine lv_aload_n hx hb dX3_init_0 rfl (lv_at hl 0 rfl) ?_
  refine W.objInit hx hb hown (hts (.methodLink RX3 1 objectInit) (by decide +kernel)) (hts (.instanceMethod objectInit) (by decide +kernel)) (hts _ (List.mem_cons_of_mem _ (List.mem_append_left _ (List.mem_of_getElem? (i := 2) rfl)))) rfl (by rw [hml]; exact hl.1) rfl dX3_init_1 (Nat.le_of_ble_eq_true rfl) (Nat.le_of_ble_eq_true rfl) ?_
  refine W.eq (g2 := F0 m 4 ls []) rfl ?_
  have b5 : 5 < 500 := by decide
  have b6 : 6 < 500 := by decide
  have b7 : 7 < 500 := by decide
  refine lv_aload_n hx hb dX3_init_4 rfl (lv_at hl 0 rfl) ?_
  refine lv_iconst (v := nI 0) hx hb dX3_init_5 (by decide) ?_
  refine mx_newr hx hb hown (hts (.classLink RX3 7 "[I") (by decide +kernel)) hN hE 5 h5 b5 rfl (by decide) (Nat.le_of_ble_eq_true rfl) (Nat.le_of_ble_eq_true rfl) dX3_init_6 (fun ad1 H hjad1 hE => ?_)
  have e9 : ad1 4 = ad 4 := hjad1 4 (by decide)
  rw [← e9] at hl ⊢
  clear e9
  obtain ⟨Mk2, hMk2⟩ : ∃ y99, y99 = mU M 5 (.inl (cy 3, 0, .inr (.inr (.inr (.inr (fun _ => none)))))) := ⟨_, rfl⟩
  have hE : mE G (mA ad (M) s.heap.size) s.heap ad1 Mk2 H [] := by rw [hMk2]; exact hE
  have kf3 : Mk2 4 = some (.inr (3, [.null, .null, .null])) := by rw [hMk2, mU_n _ _ (by decide)]; exact h4
  have kf4 : Mk2 5 = some (.inl (cy 3, 0, .inr (.inr (.inr (.inr (fun _ => none)))))) := by rw [hMk2, mU_s]
  have kf5 : Mk2 6 = none := by rw [hMk2, mU_n _ _ (by decide)]; exact h6
  have kf6 : Mk2 7 = none := by rw [hMk2, mU_n _ _ (by decide)]; exact h7
  have r97 : ∀ j, j ≠ 4 → j ≠ 5 → j ≠ 6 → j ≠ 7 → Mk2 j = M j := fun j a0 a1 a2 a3 => (congrFun hMk2 j).trans ((mU_n _ _ a1).trans (r0 j a0 a1 a2 a3))
  have q98 : ∀ j, j ≠ 5 → j ≠ 6 → j ≠ 7 → ad1 j = ad j := fun j a0 a1 a2 => (hjad1 j a0).trans (q0 j a0 a1 a2)
  refine mx_put (ci := 3) (v := .ref (ad1 5)) (ty := .array (.array .int)) (C := RX3) (T := TX3) (N := 3) hx hb hts hiX3 tyX3 tyX3_ok nmX3 hown hN hE kf3 rfl 0 (by decide) (hts (.fieldLink RX3 9 RX3 "things" "[[I") (by decide +kernel)) (fun _ h9 => h9) rfl (by decide +kernel) rfl rfl (Nat.le_of_ble_eq_true rfl) dX3_init_9 (fun H locs hE => ?_)
  obtain ⟨Mk9, hMk9⟩ : ∃ y99, y99 = mU Mk2 4 (.inr (3, [.ref (ad1 5), .null, .null])) := ⟨_, rfl⟩
  have hE : mE G (mA ad (M) s.heap.size) s.heap ad1 Mk9 H locs := by rw [hMk9]; exact hE
  have kf10 : Mk9 4 = some (.inr (3, [.ref (ad1 5), .null, .null])) := by rw [hMk9, mU_s]
  have kf11 : Mk9 5 = some (.inl (cy 3, 0, .inr (.inr (.inr (.inr (fun _ => none)))))) := by rw [hMk9, mU_n _ _ (by decide)]; exact kf4
  have kf12 : Mk9 6 = none := by rw [hMk9, mU_n _ _ (by decide)]; exact kf5
  have kf13 : Mk9 7 = none := by rw [hMk9, mU_n _ _ (by decide)]; exact kf6
  have r914 : ∀ j, j ≠ 4 → j ≠ 5 → j ≠ 6 → j ≠ 7 → Mk9 j = M j := fun j a0 a1 a2 a3 => (congrFun hMk9 j).trans ((mU_n _ _ a0).trans (r97 j a0 a1 a2 a3))
  refine lv_aload_n hx hb dX3_init_12 rfl (lv_at hl 0 rfl) ?_
  refine lv_iconst (v := nI 0) hx hb dX3_init_13 (by decide) ?_
  refine mx_newr hx hb hown (hts (.classLink RX3 7 "[I") (by decide +kernel)) hN hE 6 kf12 b6 rfl (by decide) (Nat.le_of_ble_eq_true rfl) (Nat.le_of_ble_eq_true rfl) dX3_init_14 (fun ad15 H hjad15 hE => ?_)
  have e9 : ad15 4 = ad1 4 := hjad15 4 (by decide)
  rw [← e9] at hl ⊢
  clear e9
  obtain ⟨Mk16, hMk16⟩ : ∃ y99, y99 = mU Mk9 6 (.inl (cy 3, 0, .inr (.inr (.inr (.inr (fun _ => none)))))) := ⟨_, rfl⟩
  have hE : mE G (mA ad (M) s.heap.size) s.heap ad15 Mk16 H locs := by rw [hMk16]; exact hE
  have kf17 : Mk16 4 = some (.inr (3, [.ref (ad15 5), .null, .null])) := by rw [hMk16, mU_n _ _ (by decide), hjad15 5 (by decide)]; exact kf10
  have kf18 : Mk16 5 = some (.inl (cy 3, 0, .inr (.inr (.inr (.inr (fun _ => none)))))) := by rw [hMk16, mU_n _ _ (by decide)]; exact kf11
  have kf19 : Mk16 6 = some (.inl (cy 3, 0, .inr (.inr (.inr (.inr (fun _ => none)))))) := by rw [hMk16, mU_s]
  have kf20 : Mk16 7 = none := by rw [hMk16, mU_n _ _ (by decide)]; exact kf13
  have r921 : ∀ j, j ≠ 4 → j ≠ 5 → j ≠ 6 → j ≠ 7 → Mk16 j = M j := fun j a0 a1 a2 a3 => (congrFun hMk16 j).trans ((mU_n _ _ a2).trans (r914 j a0 a1 a2 a3))
  have q922 : ∀ j, j ≠ 5 → j ≠ 6 → j ≠ 7 → ad15 j = ad j := fun j a0 a1 a2 => (hjad15 j a1).trans (q98 j a0 a1 a2)
  refine mx_put (ci := 3) (v := .ref (ad15 6)) (ty := .array (.array .int)) (C := RX3) (T := TX3) (N := 3) hx hb hts hiX3 tyX3 tyX3_ok nmX3 hown hN hE kf17 rfl 1 (by decide) (hts (.fieldLink RX3 15 RX3 "seals" "[[I") (by decide +kernel)) (fun _ h9 => h9) rfl (by decide +kernel) rfl rfl (Nat.le_of_ble_eq_true rfl) dX3_init_17 (fun H locs hE => ?_)
  obtain ⟨Mk23, hMk23⟩ : ∃ y99, y99 = mU Mk16 4 (.inr (3, [.ref (ad15 5), .ref (ad15 6), .null])) := ⟨_, rfl⟩
  have hE : mE G (mA ad (M) s.heap.size) s.heap ad15 Mk23 H locs := by rw [hMk23]; exact hE
  have kf24 : Mk23 4 = some (.inr (3, [.ref (ad15 5), .ref (ad15 6), .null])) := by rw [hMk23, mU_s]
  have kf25 : Mk23 5 = some (.inl (cy 3, 0, .inr (.inr (.inr (.inr (fun _ => none)))))) := by rw [hMk23, mU_n _ _ (by decide)]; exact kf18
  have kf26 : Mk23 6 = some (.inl (cy 3, 0, .inr (.inr (.inr (.inr (fun _ => none)))))) := by rw [hMk23, mU_n _ _ (by decide)]; exact kf19
  have kf27 : Mk23 7 = none := by rw [hMk23, mU_n _ _ (by decide)]; exact kf20
  have r928 : ∀ j, j ≠ 4 → j ≠ 5 → j ≠ 6 → j ≠ 7 → Mk23 j = M j := fun j a0 a1 a2 a3 => (congrFun hMk23 j).trans ((mU_n _ _ a0).trans (r921 j a0 a1 a2 a3))
  refine lv_aload_n hx hb dX3_init_20 rfl (lv_at hl 0 rfl) ?_
  refine lv_bipush (v := nI 6) hx hb dX3_init_21 (by decide) ?_
  refine mx_newi hx hb (hts (.arrayClass .int) (by decide +kernel)) hN hE 7 kf27 b7 rfl (by decide) (Nat.le_of_ble_eq_true rfl) (Nat.le_of_ble_eq_true rfl) dX3_init_23 (fun ad29 H hjad29 hE => ?_)
  have e9 : ad29 4 = ad15 4 := hjad29 4 (by decide)
  rw [← e9] at hl ⊢
  clear e9
  obtain ⟨Mk30, hMk30⟩ : ∃ y99, y99 = mU Mk23 7 (mI cy 6 (fun _ => 0)) := ⟨_, rfl⟩
  have hE : mE G (mA ad (M) s.heap.size) s.heap ad29 Mk30 H locs := by rw [hMk30]; exact hE
  have kf31 : Mk30 4 = some (.inr (3, [.ref (ad29 5), .ref (ad29 6), .null])) := by rw [hMk30, mU_n _ _ (by decide), hjad29 5 (by decide), hjad29 6 (by decide)]; exact kf24
  have kf32 : Mk30 5 = some (.inl (cy 3, 0, .inr (.inr (.inr (.inr (fun _ => none)))))) := by rw [hMk30, mU_n _ _ (by decide)]; exact kf25
  have kf33 : Mk30 6 = some (.inl (cy 3, 0, .inr (.inr (.inr (.inr (fun _ => none)))))) := by rw [hMk30, mU_n _ _ (by decide)]; exact kf26
  have kf34 : Mk30 7 = some (mI cy 6 (fun _ => 0)) := by rw [hMk30, mU_s]
  have r935 : ∀ j, j ≠ 4 → j ≠ 5 → j ≠ 6 → j ≠ 7 → Mk30 j = M j := fun j a0 a1 a2 a3 => (congrFun hMk30 j).trans ((mU_n _ _ a3).trans (r928 j a0 a1 a2 a3))
  have q936 : ∀ j, j ≠ 5 → j ≠ 6 → j ≠ 7 → ad29 j = ad j := fun j a0 a1 a2 => (hjad29 j a2).trans (q922 j a0 a1 a2)
  refine mx_put (ci := 3) (v := .ref (ad29 7)) (ty := .array .int) (C := RX3) (T := TX3) (N := 3) hx hb hts hiX3 tyX3 tyX3_ok nmX3 hown hN hE kf31 rfl 2 (by decide) (hts (.fieldLink RX3 18 RX3 "changes" "[I") (by decide +kernel)) (fun _ h9 => h9) rfl (by decide +kernel) rfl rfl (Nat.le_of_ble_eq_true rfl) dX3_init_25 (fun H locs hE => ?_)
  obtain ⟨Mk37, hMk37⟩ : ∃ y99, y99 = mU Mk30 4 (.inr (3, [.ref (ad29 5), .ref (ad29 6), .ref (ad29 7)])) := ⟨_, rfl⟩
  have hE : mE G (mA ad (M) s.heap.size) s.heap ad29 Mk37 H locs := by rw [hMk37]; exact hE
  have kf38 : Mk37 4 = some (.inr (3, [.ref (ad29 5), .ref (ad29 6), .ref (ad29 7)])) := by rw [hMk37, mU_s]
  have kf39 : Mk37 5 = some (.inl (cy 3, 0, .inr (.inr (.inr (.inr (fun _ => none)))))) := by rw [hMk37, mU_n _ _ (by decide)]; exact kf32
  have kf40 : Mk37 6 = some (.inl (cy 3, 0, .inr (.inr (.inr (.inr (fun _ => none)))))) := by rw [hMk37, mU_n _ _ (by decide)]; exact kf33
  have kf41 : Mk37 7 = some (mI cy 6 (fun _ => 0)) := by rw [hMk37, mU_n _ _ (by decide)]; exact kf34
  have r942 : ∀ j, j ≠ 4 → j ≠ 5 → j ≠ 6 → j ≠ 7 → Mk37 j = M j := fun j a0 a1 a2 a3 => (congrFun hMk37 j).trans ((mU_n _ _ a0).trans (r935 j a0 a1 a2 a3))
  exact mx_vret hx hb hr hE hlocks ⟨q936, r942, kf38, kf39, kf40, kf41⟩ dX3_init_28

theorem mx_raret {p : Program} {l : Launch} {e : Env} {R : Room} {s : State} {m : MethodId} {args : Array Value} {below : List Frame} {meth : Method} {c : Code} {H : Heap} {locs : List Loc} {cells slots : Nat} {cc : ByteArray} {pc : Nat} {ls : Array Slot} {G : va_G} {ad ad' : Nat → Nat} {M M' : mC} {post : Option Nat → (Nat → Nat) × mC → Prop} {v : Nat} {C : FieldType} (hx : p.tables.exec = Jvm.exec) (hb : c.code = cc) (hr : meth.sig.returnType = some (.array C)) (hE : mE G (mA ad M s.heap.size) s.heap ad' M' H locs) (hlocks : meth.locks = false) (hp : post (some v) (ad', M')) (hdg : decode cc pc = .ok (.areturn, 1)) :
    W p l e R s m args below meth c H locs cells slots (MQ below (va_Qq post (mB G ad M s.heap.size) (mA ad M s.heap.size)) args s cells slots (mA ad M s.heap.size)) (F0 m pc ls [.ref v]) :=
  W.aret hx hb hr (Or.inr ⟨C, rfl⟩) (Or.inr ⟨v, rfl⟩) (fun t ht hW => ⟨⟨some v, (ad', M'), rfl, hp, mE_end hE ht⟩, hE.2.2.2.F ht⟩) hE.2.2.2.2.2 hdg hlocks
theorem jRR_up {ad : Nat → Nat} {b : Nat} (i : Nat) : va_up (fun j => if j < i then some (ad (b + j)) else none) i (some (ad (b + i))) = (fun j => if j < i + 1 then some (ad (b + j)) else none) := by
  funext j
  by_cases h : j = i
  · subst h; rw [va_up_s, if_pos (by omega)]
  · rw [va_up_n _ _ h]
    by_cases h2 : j < i
    · rw [if_pos h2, if_pos (by omega)]
    · rw [if_neg h2, if_neg (by omega)]

set_option maxHeartbeats 4000000 in
set_option maxRecDepth 100000 in
/-- a row of rows with one row more -/
theorem c_X3_more (l : Launch) (G : va_G) (cy : Nat → ClassId) (ad : Nat → Nat) (M : mC) (sz : Nat) (w b z : Nat) (hz : z ≤ 20) (hb20 : 20 ≤ b) (hw8 : w ≠ 8) (m0 : M w = some (mRR cy ad z z b)) (m1 : ∀ i, i ≤ z → ∃ (n9 : Nat) (g : Nat → Int32), M (b + i) = some (mI cy n9 g)) (m8 : M 8 = none) : mMq l yX3_more wsX3_more ({ frames := 7, cells := 1, slots := 21, locals := 100 }) G cy ad (M) sz [.ref (ad w), .ref (ad (b + z))] 1 21 (fun (r : Option Nat) t => r = some (t.1 8) ∧ (∀ j, j ≠ 8 → t.1 j = ad j) ∧ t.2 = mU M 8 (mRR cy t.1 (z + 1) (z + 1) b)) := by
  refine Met.ofW (cc := cX3_more) (maxL := 4) (ret := (some (.array (.array .int)))) (by decide) rfl ?_
  intro p e s m args below meth c s₁ B hml hv
  obtain ⟨rfl, hv⟩ := hv
  have hsz := hv.1
  subst hsz
  have hN := hv.2.2
  have hE := mP_E hv
  have hx := B.exec
  have hb := B.bytes
  have hr := B.returns
  have hts := atoms_spec (ws := wsX3_more) B.pre
  have hown : s.vm.findClass RX3 = some m.cls := findClass_of_methodNamed B.named
  have hlocks := B.notSynchronized
  have hl := lv_entry ([.ref (ad w), .ref (ad (b + z))]) (n := 4) (Nat.le_of_ble_eq_true rfl)
  rw [lg_entry_eq]
  generalize (lg_sl ([.ref (ad w), .ref (ad (b + z))]) ++ List.replicate (4 - (lg_sl ([.ref (ad w), .ref (ad (b + z))])).length) Slot.unset).toArray = ls at hl ⊢
  have hl : lv_has ls 4 [(0, .ref (ad w)), (1, .ref (ad (b + z)))] := hl
  refine lv_aload_n hx hb dX3_more_0 rfl (lv_at hl 0 rfl) ?_
  refine va_alen (v := nI z) hx hb hN.1 (mE_P1 hE m0) 0 3 rfl rfl rfl dX3_more_1 ?_
  refine lv_iconst (v := nI 1) hx hb dX3_more_2 (by decide) ?_
  refine mv_iadd (z := nI (z + 1)) hx hb (nI_add _ _) dX3_more_3 ?_
  refine mx_newr hx hb hown (hts (.classLink RX3 7 "[I") (by decide +kernel)) hN hE 8 m8 (by decide) rfl (by omega) (Nat.le_of_ble_eq_true rfl) (by show _ ≤ 21; omega) dX3_more_4 (fun ad1 H hj1 hE => ?_)
  have ew : ad1 w = ad w := hj1 w hw8
  have eb : ∀ i, ad1 (b + i) = ad (b + i) := fun i => hj1 _ (by omega)
  have k0 : mU M 8 (mRR cy ad1 (z + 1) 0 b) w = some (mRR cy ad1 z z b) := by rw [mU_n _ _ hw8, m0, mRR, mRR]; simp only [eb]
  generalize hargs : ([.ref (ad w), .ref (ad (b + z))] : List Value).toArray = args at hts ⊢
  rw [← ew, ← eb z] at hl
  have hE : mE G (mA ad (M) s.heap.size) s.heap ad1 (mU M 8 (mRR cy ad1 (z + 1) 0 b)) H [] := by rw [show mRR cy ad1 (z + 1) 0 b = .inl (cy 3, z + 1, .inr (.inr (.inr (.inr (fun _ => none))))) from congrArg (fun f => (.inl (cy 3, z + 1, .inr (.inr (.inr (.inr f)))) : va_E)) (funext fun i => if_neg (Nat.not_lt_zero i))]; exact hE
  refine lv_astore_n (lv' := [(2, .ref (ad1 8)), (0, .ref (ad1 w)), (1, .ref (ad1 (b + z)))]) hx hb dX3_more_7 rfl hl (by decide) rfl (fun ls hl => ?_)
  refine lv_iconst (v := nI 0) hx hb dX3_more_8 (by decide) ?_
  refine lv_istore_n (lv' := [(3, .int (nI 0)), (2, .ref (ad1 8)), (0, .ref (ad1 w)), (1, .ref (ad1 (b + z)))]) hx hb dX3_more_9 rfl hl (by decide) rfl (fun ls hl => ?_)
  refine mx_loop (β := Nat) (fun n9 (i : Nat) H locs ls => n9 = z - i ∧ (i ≤ z) ∧ mE G (mA ad (M) s.heap.size) s.heap ad1 (mU M 8 (mRR cy ad1 (z + 1) i b)) H locs ∧ lv_has ls 4 [(3, .int (nI i)), (2, .ref (ad1 8)), (0, .ref (ad1 w)), (1, .ref (ad1 (b + z)))]) ?_ (z - 0) (0) _ _ _ ⟨rfl, (by omega), hE, lv_sub hl [0, 1, 2, 3] rfl⟩
  intro n9 i H locs ls hI ih1
  obtain ⟨hn2, hle, hE, hl⟩ := hI
  have k0 : mU M 8 (mRR cy ad1 (z + 1) i b) w = some (mRR cy ad1 z z b) := by rw [mU_n _ _ hw8, m0, mRR, mRR]; simp only [eb]
  have hE : mE G (mA ad (M) s.heap.size) s.heap ad1 (mU M 8 (mRR cy ad1 (z + 1) i b)) H locs := hE
  have hl : lv_has ls 4 [(3, .int (nI i)), (2, .ref (ad1 8)), (0, .ref (ad1 w)), (1, .ref (ad1 (b + z)))] := hl
  refine lv_iload_n hx hb dX3_more_10 rfl (lv_at hl 0 rfl) ?_
  refine lv_aload_n hx hb dX3_more_11 rfl (lv_at hl 2 rfl) ?_
  refine va_alen (v := nI z) hx hb hN.1 (mE_P1 hE k0) 0 3 rfl rfl rfl dX3_more_12 ?_
  refine mv_ge (tgt := 28) hx hb (by omega) (by omega) dX3_more_13 (by decide) (fun c3 => ?_) (fun c3 => ?_)
  · skip
    refine lv_aload_n hx hb dX3_more_28 rfl (lv_at hl 1 rfl) ?_
    refine lv_aload_n hx hb dX3_more_29 rfl (lv_at hl 2 rfl) ?_
    refine va_alen (v := nI z) hx hb hN.1 (mE_P1 hE k0) 0 3 rfl rfl rfl dX3_more_30 ?_
    refine lv_aload_n hx hb dX3_more_31 rfl (lv_at hl 3 rfl) ?_
    have hi9 : i = z := by omega
    subst hi9
    obtain ⟨n9, g9, q9⟩ := m1 i (by omega)
    refine mx_rasta hx hb hN hE (mU_s _ _ _) ((mU_n _ _ (show b + i ≠ 8 by omega)).trans q9) (j := i) rfl (by omega) (by omega) dX3_more_32 (fun H locs hE => ?_)
    rw [jU_uu, jRR_up] at hE
    refine lv_aload_n hx hb dX3_more_33 rfl (lv_at hl 1 rfl) ?_
    refine W.widen (k := 1) (n := 21) (by omega) (by omega) ?_
    refine mx_raret hx hb hr hE hlocks ?_ dX3_more_34
    exact ⟨rfl, hj1, rfl⟩
  · skip
    refine lv_aload_n hx hb dX3_more_16 rfl (lv_at hl 1 rfl) ?_
    refine lv_iload_n hx hb dX3_more_17 rfl (lv_at hl 0 rfl) ?_
    refine lv_aload_n hx hb dX3_more_18 rfl (lv_at hl 2 rfl) ?_
    refine lv_iload_n hx hb dX3_more_19 rfl (lv_at hl 0 rfl) ?_
    refine mx_ralda hx hb hN hE k0 (j := i) rfl (by omega) (by omega) (if_pos (show i < z by omega)) dX3_more_20 ?_
    obtain ⟨n9, g9, q9⟩ := m1 i (by omega)
    refine mx_rasta hx hb hN hE (mU_s _ _ _) ((mU_n _ _ (show b + i ≠ 8 by omega)).trans q9) (j := i) rfl (by omega) (by omega) dX3_more_21 (fun H locs hE => ?_)
    rw [jU_uu, jRR_up] at hE
    refine lv_iinc (v := nI (i + 1)) (lv' := [(3, .int (nI (i + 1))), (2, .ref (ad1 8)), (0, .ref (ad1 w)), (1, .ref (ad1 (b + z)))]) hx hb dX3_more_22 hl (k := 0) rfl (nI_add _ _) (by decide) rfl (fun ls hl => ?_)
    refine lv_goto (tgt := 10) hx hb dX3_more_25 (by decide) ?_
    exact ih1 (z - (i + 1)) (i + 1) _ _ _ (by rw [hn2]; omega) ⟨rfl, (by omega), hE, lv_sub hl [0, 1, 2, 3] rfl⟩

/-! ===== the script ===== -/
def jX (b L : Nat) (xs : Nat → Int32) (G : va_G) (cy : Nat → ClassId) (ad : Nat → Nat) (M : mC) (sz : Nat) (U : State) : Prop := mP G cy ad M sz U ∧ va_X b L xs U U.heap ∧ b < sz ∧ ¬ mA ad M sz b
abbrev mXi (l : Launch) (y : MethodName) (ws : List Cond) (rm : Room) (G : va_G) (cy : Nat → ClassId) (ad : Nat → Nat) (M : mC) (sz : Nat) (b L : Nat) (xs : Nat → Int32) (av : List Value) (mc ms : Nat) (post : Int32 → (Nat → Nat) × mC → Prop) : Prop := Met l y ws rm (va_Pc av (jX b L xs G cy ad M sz)) (va_Qi post (mB G ad M sz) (mA ad M sz)) mc ms (mA ad M sz)
abbrev mXq (l : Launch) (y : MethodName) (ws : List Cond) (rm : Room) (G : va_G) (cy : Nat → ClassId) (ad : Nat → Nat) (M : mC) (sz : Nat) (b L : Nat) (xs : Nat → Int32) (av : List Value) (mc ms : Nat) (post : Option Nat → (Nat → Nat) × mC → Prop) : Prop := Met l y ws rm (va_Pc av (jX b L xs G cy ad M sz)) (va_Qq post (mB G ad M sz) (mA ad M sz)) mc ms (mA ad M sz)
section JXS
variable {p : Program} {l : Launch} {e : Env} {R : Room} {s : State} {m : MethodId} {args : Array Value} {below : List Frame} {meth : Method} {c : Code} {H : Heap} {locs : List Loc} {cells slots : Nat} {Q : State → Prop}
variable {cc : ByteArray} {pc : Nat} {ls : Array Slot} {rest : List Value} {G : va_G} {cy : Nat → ClassId} {A : Nat → Prop} {ad : Nat → Nat} {M : mC} {sz : Nat} {av : List Value} {b L : Nat} {xs : Nat → Int32}
theorem jX_blind : FrameBlind (va_Pc av (jX b L xs G cy ad M sz)) := fun a U g mk h => ⟨h.1, (mP_blind (av := av) a U g mk ⟨h.1, h.2.1⟩).2, (h.2.2.1.moved (Vm.Alike.refl _) : va_X b L xs (U.calling g mk a) U.heap), h.2.2.2⟩
theorem jX_S (hN : mN G cy A s) (hE : mE G A s.heap ad M H locs) (hX : va_X b L xs s s.heap) (hbl : b < s.heap.size) (hbA : ¬ A b) : PreS s H (va_Pc av (jX b L xs G cy ad M H.size)) av :=
  ⟨jX_blind, fun U hU hW => ⟨rfl, mP_U hN hE hU hW, by rw [hU]; exact (hX.kept (hE.2.2.2.2.1 b hbl hbA)).moved hW.alike, Nat.lt_of_lt_of_le hbl hE.2.2.2.1, fun h => by
    rcases h with ⟨k, hk, e⟩ | h
    · exact hbA (e ▸ hE.2.1 k hk)
    · exact Nat.not_le.mpr (Nat.lt_of_lt_of_le hbl hE.2.2.2.1) h⟩⟩
theorem mx_sld (hx : p.tables.exec = Jvm.exec) (hb : c.code = cc) (hX : va_X b L xs s s.heap) (hbl : b < s.heap.size) (hbA : ¬ A b) (hE : mE G A s.heap ad M H locs) {x : Int32} {j : Nat} (hi : x = nI j) (hj : j < L) (hL : L ≤ 260) (hdg : decode cc pc = .ok (.iaload, 1))
    (kk : W p l e R s m args below meth c H locs cells slots Q (F0 m (pc + 1) ls (.int (xs j) :: rest))) : W p l e R s m args below meth c H locs cells slots Q (F0 m pc ls (.int x :: .ref b :: rest)) := by
  subst hi
  refine va_sld hx hb hX hbl hbA hE.2.2.2 (vp_in_nI hj (by omega)) hdg ?_
  rw [nI_clamp (by omega)]
  exact kk
end JXS
/-- a cell of the script, and what stands for one that isn't there -/
def jCell (L : Nat) (xs : Nat → Int32) (k : Nat) : Int32 := if k < L then xs k else 790386105 * nI (k + 3)
/-- a number below another one -/
def jBe (x : Int32) (n : Nat) : Nat := x.toBitVec.toNat % 2 ^ 31 % n
theorem jBe_lt (x : Int32) {n : Nat} (h : 0 < n) : jBe x n < n := Nat.mod_lt _ h

set_option maxHeartbeats 4000000 in
set_option maxRecDepth 100000 in
/-- below -/
theorem c_L_below (l : Launch) (G : va_G) (cy : Nat → ClassId) (ad : Nat → Nat) (M : mC) (sz : Nat) (x9 : Int32) (n : Nat) (hn0 : 0 < n) (hn9 : n < 2 ^ 31) : mMi l yL_below wsL_below ({ frames := 7, cells := 0, slots := 0, locals := 100 }) G cy ad (M) sz [.int x9, .int (nI n)] 0 0 (fun (r : Int32) u => r = nI (jBe x9 n) ∧ u = (ad, M)) := by
  refine Met.ofW (cc := cL_below) (maxL := 2) (ret := (some .int)) (by decide) rfl ?_
  intro p e s m args below meth c s₁ B hml hv
  obtain ⟨rfl, hv⟩ := hv
  have hsz := hv.1
  subst hsz
  have hN := hv.2.2
  have hE := mP_E hv
  have hx := B.exec
  have hb := B.bytes
  have hr := B.returns
  have hts := atoms_spec (ws := wsL_below) B.pre
  have hown : s.vm.findClass RL = some m.cls := findClass_of_methodNamed B.named
  have hlocks := B.notSynchronized
  have hl := lv_entry ([.int x9, .int (nI n)]) (n := 2) (Nat.le_of_ble_eq_true rfl)
  rw [lg_entry_eq]
  generalize (lg_sl ([.int x9, .int (nI n)]) ++ List.replicate (2 - (lg_sl ([.int x9, .int (nI n)])).length) Slot.unset).toArray = ls at hl ⊢
  have hl : lv_has ls 2 [(0, .int x9), (1, .int (nI n))] := hl
  refine lv_iload_n hx hb dL_below_0 rfl (lv_at hl 0 rfl) ?_
  refine lv_ldc (v := 2147483647) hx hb hown (hts (.constant RL 7 2147483647) (by decide +kernel)) dL_below_1 ?_
  refine mv_iand (z := nI (x9.toBitVec.toNat % 2 ^ 31)) hx hb (pk_and x9 31 (by decide)) dL_below_3 ?_
  refine lv_iload_n hx hb dL_below_4 rfl (lv_at hl 1 rfl) ?_
  refine mv_irem (z := nI (x9.toBitVec.toNat % 2 ^ 31 % n)) hx hb (nI_ne0 hn0 hn9) (pk_rem (Nat.mod_lt _ (by decide)) hn0 hn9) dL_below_5 ?_
  exact mx_iret hx hb hr hE hlocks ⟨rfl, rfl⟩ dL_below_6

set_option maxHeartbeats 4000000 in
set_option maxRecDepth 100000 in
/-- cell -/
theorem c_L_cell (l : Launch) (G : va_G) (cy : Nat → ClassId) (ad : Nat → Nat) (M : mC) (sz : Nat) (b L : Nat) (xs : Nat → Int32) (hL : L ≤ 260) (j : Nat) (hj : j < 1000) : mXi l yL_cell wsL_cell ({ frames := 7, cells := 0, slots := 0, locals := 100 }) G cy ad (M) sz b L xs [.ref b, .int (nI j)] 0 0 (fun (r : Int32) u => r = jCell L xs j ∧ u = (ad, M)) := by
  refine Met.ofW (cc := cL_cell) (maxL := 2) (ret := (some .int)) (by decide) rfl ?_
  intro p e s m args below meth c s₁ B hml hv
  obtain ⟨rfl, hv⟩ := hv
  have hX := hv.2.1
  have hbl := hv.2.2.1
  have hbA := hv.2.2.2
  have hv := hv.1
  have hsz := hv.1
  subst hsz
  have hN := hv.2.2
  have hE := mP_E hv
  have hx := B.exec
  have hb := B.bytes
  have hr := B.returns
  have hts := atoms_spec (ws := wsL_cell) B.pre
  have hown : s.vm.findClass RL = some m.cls := findClass_of_methodNamed B.named
  have hlocks := B.notSynchronized
  have hl := lv_entry ([.ref b, .int (nI j)]) (n := 2) (Nat.le_of_ble_eq_true rfl)
  rw [lg_entry_eq]
  generalize (lg_sl ([.ref b, .int (nI j)]) ++ List.replicate (2 - (lg_sl ([.ref b, .int (nI j)])).length) Slot.unset).toArray = ls at hl ⊢
  have hl : lv_has ls 2 [(0, .ref b), (1, .int (nI j))] := hl
  refine lv_iload_n hx hb dL_cell_0 rfl (lv_at hl 1 rfl) ?_
  refine lv_aload_n hx hb dL_cell_1 rfl (lv_at hl 0 rfl) ?_
  refine va_slen hx hb hX hbl hbA hE.2.2.2 dL_cell_2 ?_
  refine mv_ge (tgt := 12) hx hb (by omega) (by omega) dL_cell_3 (by decide) (fun c1 => ?_) (fun c1 => ?_)
  · skip
    refine lv_ldc (v := 790386105) hx hb hown (hts (.constant RL 8 790386105) (by decide +kernel)) dL_cell_12 ?_
    refine lv_iload_n hx hb dL_cell_14 rfl (lv_at hl 1 rfl) ?_
    refine lv_iconst (v := nI 3) hx hb dL_cell_15 (by decide) ?_
    refine mv_iadd (z := nI (j + 3)) hx hb (nI_add _ _) dL_cell_16 ?_
    refine mv_imul (z := (790386105 : Int32) * (nI (j + 3))) hx hb rfl dL_cell_17 ?_
    exact mx_iret hx hb hr hE hlocks ⟨by rw [jCell, if_neg (by omega)], rfl⟩ dL_cell_18
  · skip
    refine lv_aload_n hx hb dL_cell_6 rfl (lv_at hl 0 rfl) ?_
    refine lv_iload_n hx hb dL_cell_7 rfl (lv_at hl 1 rfl) ?_
    refine mx_sld hx hb hX hbl hbA hE (j := j) rfl (by omega) hL dL_cell_8 ?_
    refine lv_goto (tgt := 18) hx hb dL_cell_9 (by decide) ?_
    exact mx_iret hx hb hr hE hlocks ⟨by rw [jCell, if_pos (by omega)], rfl⟩ dL_cell_18
