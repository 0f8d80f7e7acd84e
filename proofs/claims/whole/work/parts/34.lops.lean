set_option maxHeartbeats 4000000 in
set_option maxRecDepth 100000 in
/-- come of the law -/
theorem c_L_come (l : Launch) (G : va_G) (cy : Nat → ClassId) (ad : Nat → Nat) (n k : Nat) (v : Nat → Nat → Int32) (o : Nat → Int64) (hn : n ≤ 6) (hk : k ≤ 20) (sz : Nat) (hq : n < 6) : mMi l yL_come wsL_come ({ frames := 10, cells := 3, slots := 51, locals := 220 }) G cy ad (Sy cy ad n k v o) sz [.ref (ad 0), .ref (ad 12)] 3 51 (fun (r : Int32) u => r = nI 0 ∧ ∃ (ad' : Nat → Nat) (g : Nat → Int32), u = (ad', Sy cy ad' (n + 1) k (mVc v n g) (vp_updL o 0 (nI n).toInt64)) ∧ (∀ j, mIs n k j → ad' j = ad j) ∧ mCon g (fun _ => 0)) := by
  refine va_MetW (cc := cL_come) (maxL := 3) (ret := (some .int)) (hh := [(0, 8, 11, 13)]) (by decide) rfl ?_
  intro p e s m args below meth c s₁ B hml hv
  obtain ⟨rfl, hv⟩ := hv
  have hsz := hv.1
  subst hsz
  have hN := hv.2.2
  have hE := mP_E hv
  have hx := B.exec
  have hb := B.bytes
  have hr := B.returns
  have hts := atoms_spec (ws := wsL_come) B.pre
  have hown : s.vm.findClass RL = some m.cls := findClass_of_methodNamed B.named
  have hlocks := B.notSynchronized
  have htab : c.exceptionTable.toList = tableOf [(0, 8, 11, 13)] := vx_table (x := yL_come) B (hts _ List.mem_cons_self)
  have hl := lv_entry ([.ref (ad 0), .ref (ad 12)]) (n := 3) (Nat.le_of_ble_eq_true rfl)
  rw [lg_entry_eq]
  generalize (lg_sl ([.ref (ad 0), .ref (ad 12)]) ++ List.replicate (3 - (lg_sl ([.ref (ad 0), .ref (ad 12)])).length) Slot.unset).toArray = ls at hl ⊢
  have hl : lv_has ls 3 [(0, .ref (ad 0)), (1, .ref (ad 12))] := hl
  refine lv_aload_n hx hb dL_come_0 rfl (lv_at hl 1 rfl) ?_
  refine lv_iconst (v := nI 0) hx hb dL_come_1 (by decide) ?_
  refine lv_aload_n hx hb dL_come_2 rfl (lv_at hl 0 rfl) ?_
  refine va_calli (va_runV (As := []) (rest := [.int (nI 0), .ref (ad 12)]) ⟨hx, hb, hml, hown, hts⟩ (c_X2_come l G cy ad n k v o hn hk _ hq) (cwV 0 hts gL_come_X2_come rfl rfl rfl (by decide +kernel) ⟨Nat.le_of_ble_eq_true rfl, Nat.le_of_ble_eq_true rfl⟩) (mP_V (r := (RX2, TX2, 5)) hN hE S_0 rfl) rfl rfl hl.1 rfl (lv_room (Nat.le_of_ble_eq_true rfl)) dL_come_3 ⟨Nat.le_of_ble_eq_true rfl, Nat.le_of_ble_eq_true rfl⟩) hE.2.2.2 (fun q _ h => mE_A hE q h) (mE_A hE) (fun r uq tq H locs ht hvm hw hB hz1 hk1 hS => ?_)
  obtain ⟨rfl, ad9, g9, rfl, hj9, hc9⟩ := hw
  have hE : mE G (mA ad (Sy cy ad n k v o) s.heap.size) s.heap ad9 (Sy cy ad9 (n + 1) k (mVc v n g9) o) H locs := mE_call hE hB ht hS
  rw [← hj9 12 (Or.inl (by decide))]
  refine lv_i2l hx hb dL_come_6 rfl ?_
  refine mx_last hx hb hN hE S_12 (j := 0) rfl (by decide) (by decide) dL_come_7 (fun H locs hE => ?_)
  rw [S_out] at hE
  refine lv_goto (tgt := 14) hx hb dL_come_8 (by decide) ?_
  refine lv_iconst (v := nI 0) hx hb dL_come_14 (by decide) ?_
  exact mx_iret hx hb hr hE hlocks ⟨rfl, ad9, g9, rfl, hj9, hc9⟩ dL_come_15

set_option maxHeartbeats 4000000 in
set_option maxRecDepth 100000 in
/-- come of the law, refused -/
theorem x_L_come1 (l : Launch) (hst : l.stackTraces = false) (G : va_G) (cy : Nat → ClassId) (ad : Nat → Nat) (n k : Nat) (v : Nat → Nat → Int32) (o : Nat → Int64) (hn : n ≤ 6) (hk : k ≤ 20) (sz : Nat) (hq : n = 6) : mMi l yL_come wsL_come ({ frames := 10, cells := 1, slots := 6, locals := 220 }) G cy ad (Sy cy ad n k v o) sz [.ref (ad 0), .ref (ad 12)] 1 6 (fun (r : Int32) u => r = nI 1 ∧ u = (ad, Sy cy ad n k v o)) := by
  refine va_MetW (cc := cL_come) (maxL := 3) (ret := (some .int)) (hh := [(0, 8, 11, 13)]) (by decide) rfl ?_
  intro p e s m args below meth c s₁ B hml hv
  obtain ⟨rfl, hv⟩ := hv
  have hsz := hv.1
  subst hsz
  have hN := hv.2.2
  have hE := mP_E hv
  have hx := B.exec
  have hb := B.bytes
  have hr := B.returns
  have hts := atoms_spec (ws := wsL_come) B.pre
  have hown : s.vm.findClass RL = some m.cls := findClass_of_methodNamed B.named
  have hlocks := B.notSynchronized
  have htab : c.exceptionTable.toList = tableOf [(0, 8, 11, 13)] := vx_table (x := yL_come) B (hts _ List.mem_cons_self)
  have hl := lv_entry ([.ref (ad 0), .ref (ad 12)]) (n := 3) (Nat.le_of_ble_eq_true rfl)
  rw [lg_entry_eq]
  generalize (lg_sl ([.ref (ad 0), .ref (ad 12)]) ++ List.replicate (3 - (lg_sl ([.ref (ad 0), .ref (ad 12)])).length) Slot.unset).toArray = ls at hl ⊢
  have hl : lv_has ls 3 [(0, .ref (ad 0)), (1, .ref (ad 12))] := hl
  refine lv_aload_n hx hb dL_come_0 rfl (lv_at hl 1 rfl) ?_
  refine lv_iconst (v := nI 0) hx hb dL_come_1 (by decide) ?_
  refine lv_aload_n hx hb dL_come_2 rfl (lv_at hl 0 rfl) ?_
  refine mx_caught (vx_runV (As := []) (rest := [.int (nI 0), .ref (ad 12)]) ⟨hx, hb, hml, hown, hts⟩ (x_X2_come1 l hst G cy ad n k v o hn hk _ hq) (cwV 0 hts gL_come_X2_come rfl rfl rfl (by decide +kernel) ⟨Nat.le_of_ble_eq_true rfl, Nat.le_of_ble_eq_true rfl⟩) (mP_V (r := (RX2, TX2, 5)) hN hE S_0 rfl) rfl rfl hl.1 rfl (lv_room (Nat.le_of_ble_eq_true rfl)) dL_come_3 ⟨Nat.le_of_ble_eq_true rfl, Nat.le_of_ble_eq_true rfl⟩) hE (fun q9 ce H locs hq1 hq2 hq3 hE => ?_)
  refine vx_catch hown [] ⟨0, 8, 11, 13⟩ [] htab (fun z hz => absurd hz List.not_mem_nil) rfl (by decide) (hts (.classLink RL 13 "java/lang/IllegalStateException") (by decide +kernel)) (va_Nw.use rfl (hN.2.1 (.castable "java/lang/IllegalStateException" "java/lang/IllegalStateException") (by decide +kernel))) hq1 hq2 hq3 ?_
  dsimp only
  refine lv_astore_n (lv' := [(2, .ref q9), (0, .ref (ad 0)), (1, .ref (ad 12))]) hx hb dL_come_11 rfl hl (by decide) rfl (fun ls hl => ?_)
  refine lv_iconst (v := nI 1) hx hb dL_come_12 (by decide) ?_
  exact mx_iret hx hb hr hE hlocks ⟨rfl, rfl⟩ dL_come_13

set_option maxHeartbeats 4000000 in
set_option maxRecDepth 100000 in
/-- put of the law -/
theorem c_L_put (l : Launch) (G : va_G) (cy : Nat → ClassId) (ad : Nat → Nat) (n k : Nat) (v : Nat → Nat → Int32) (o : Nat → Int64) (hn : n ≤ 6) (hk : k ≤ 20) (sz : Nat) (i : Nat) (h_i : i < n) (d t9 : Nat) (hd : d < 16) (ht9 : t9 < 10000) : mMi l yL_put wsL_put ({ frames := 11, cells := 0, slots := 0, locals := 260 }) G cy ad (Sy cy ad n k v o) sz [.ref (ad 0), .int (nI i), .int (nI d), .int (nI t9), .ref (ad 12)] 0 0 (fun (r : Int32) u => r = nI 0 ∧ u = (ad, Sy cy ad n k (mLay v i d (nI t9)) (vp_updL o 0 (v (200 + i) d).toInt64))) := by
  refine va_MetW (cc := cL_put) (maxL := 6) (ret := (some .int)) (hh := [(0, 12, 15, 19), (0, 12, 19, 21)]) (by decide) rfl ?_
  intro p e s m args below meth c s₁ B hml hv
  obtain ⟨rfl, hv⟩ := hv
  have hsz := hv.1
  subst hsz
  have hN := hv.2.2
  have hE := mP_E hv
  have hx := B.exec
  have hb := B.bytes
  have hr := B.returns
  have hts := atoms_spec (ws := wsL_put) B.pre
  have hown : s.vm.findClass RL = some m.cls := findClass_of_methodNamed B.named
  have hlocks := B.notSynchronized
  have htab : c.exceptionTable.toList = tableOf [(0, 12, 15, 19), (0, 12, 19, 21)] := vx_table (x := yL_put) B (hts _ List.mem_cons_self)
  have hl := lv_entry ([.ref (ad 0), .int (nI i), .int (nI d), .int (nI t9), .ref (ad 12)]) (n := 6) (Nat.le_of_ble_eq_true rfl)
  rw [lg_entry_eq]
  generalize (lg_sl ([.ref (ad 0), .int (nI i), .int (nI d), .int (nI t9), .ref (ad 12)]) ++ List.replicate (6 - (lg_sl ([.ref (ad 0), .int (nI i), .int (nI d), .int (nI t9), .ref (ad 12)])).length) Slot.unset).toArray = ls at hl ⊢
  have hl : lv_has ls 6 [(0, .ref (ad 0)), (1, .int (nI i)), (2, .int (nI d)), (3, .int (nI t9)), (4, .ref (ad 12))] := hl
  refine lv_aload hx hb dL_put_0 (lv_at hl 4 rfl) ?_
  refine lv_iconst (v := nI 0) hx hb dL_put_2 (by decide) ?_
  refine lv_aload_n hx hb dL_put_3 rfl (lv_at hl 0 rfl) ?_
  refine lv_iload_n hx hb dL_put_4 rfl (lv_at hl 1 rfl) ?_
  refine lv_iload_n hx hb dL_put_5 rfl (lv_at hl 2 rfl) ?_
  refine lv_iload_n hx hb dL_put_6 rfl (lv_at hl 3 rfl) ?_
  refine va_calli (va_runV (As := [.int (nI i), .int (nI d), .int (nI t9)]) (rest := [.int (nI 0), .ref (ad 12)]) ⟨hx, hb, hml, hown, hts⟩ (c_X2_put l G cy ad n k v o hn hk _ i h_i d t9 hd ht9) (cwV 3 hts gL_put_X2_put rfl rfl rfl (by decide +kernel) ⟨Nat.le_of_ble_eq_true rfl, Nat.le_of_ble_eq_true rfl⟩) (mP_V (r := (RX2, TX2, 5)) hN hE S_0 rfl) rfl rfl hl.1 rfl (lv_room (Nat.le_of_ble_eq_true rfl)) dL_put_7 ⟨Nat.le_of_ble_eq_true rfl, Nat.le_of_ble_eq_true rfl⟩) hE.2.2.2 (fun q _ h => mE_A hE q h) (mE_A hE) (fun r uq tq H locs ht hvm hw hB hz1 hk1 hS => ?_)
  obtain ⟨rfl, rfl⟩ := hw
  have hE : mE G (mA ad (Sy cy ad n k v o) s.heap.size) s.heap ad (Sy cy ad n k (mLay v i d (nI t9)) o) H locs := mE_call hE hB ht hS
  refine lv_i2l hx hb dL_put_10 rfl ?_
  refine mx_last hx hb hN hE S_12 (j := 0) rfl (by decide) (by decide) dL_put_11 (fun H locs hE => ?_)
  rw [S_out] at hE
  refine lv_goto (tgt := 23) hx hb dL_put_12 (by decide) ?_
  refine lv_iconst (v := nI 0) hx hb dL_put_23 (by decide) ?_
  exact mx_iret hx hb hr hE hlocks ⟨rfl, rfl⟩ dL_put_24

set_option maxHeartbeats 4000000 in
set_option maxRecDepth 100000 in
/-- put of the law, refused -/
theorem x_L_put1 (l : Launch) (hst : l.stackTraces = false) (G : va_G) (cy : Nat → ClassId) (ad : Nat → Nat) (n k : Nat) (v : Nat → Nat → Int32) (o : Nat → Int64) (hn : n ≤ 6) (hk : k ≤ 20) (sz : Nat) (x : Int32) (hbad : x < 0 ∨ nI n ≤ x) (y z : Int32) : mMi l yL_put wsL_put ({ frames := 11, cells := 1, slots := 6, locals := 260 }) G cy ad (Sy cy ad n k v o) sz [.ref (ad 0), .int x, .int y, .int z, .ref (ad 12)] 1 6 (fun (r : Int32) u => r = nI 1 ∧ u = (ad, Sy cy ad n k v o)) := by
  refine va_MetW (cc := cL_put) (maxL := 6) (ret := (some .int)) (hh := [(0, 12, 15, 19), (0, 12, 19, 21)]) (by decide) rfl ?_
  intro p e s m args below meth c s₁ B hml hv
  obtain ⟨rfl, hv⟩ := hv
  have hsz := hv.1
  subst hsz
  have hN := hv.2.2
  have hE := mP_E hv
  have hx := B.exec
  have hb := B.bytes
  have hr := B.returns
  have hts := atoms_spec (ws := wsL_put) B.pre
  have hown : s.vm.findClass RL = some m.cls := findClass_of_methodNamed B.named
  have hlocks := B.notSynchronized
  have htab : c.exceptionTable.toList = tableOf [(0, 12, 15, 19), (0, 12, 19, 21)] := vx_table (x := yL_put) B (hts _ List.mem_cons_self)
  have hl := lv_entry ([.ref (ad 0), .int x, .int y, .int z, .ref (ad 12)]) (n := 6) (Nat.le_of_ble_eq_true rfl)
  rw [lg_entry_eq]
  generalize (lg_sl ([.ref (ad 0), .int x, .int y, .int z, .ref (ad 12)]) ++ List.replicate (6 - (lg_sl ([.ref (ad 0), .int x, .int y, .int z, .ref (ad 12)])).length) Slot.unset).toArray = ls at hl ⊢
  have hl : lv_has ls 6 [(0, .ref (ad 0)), (1, .int x), (2, .int y), (3, .int z), (4, .ref (ad 12))] := hl
  refine lv_aload hx hb dL_put_0 (lv_at hl 4 rfl) ?_
  refine lv_iconst (v := nI 0) hx hb dL_put_2 (by decide) ?_
  refine lv_aload_n hx hb dL_put_3 rfl (lv_at hl 0 rfl) ?_
  refine lv_iload_n hx hb dL_put_4 rfl (lv_at hl 1 rfl) ?_
  refine lv_iload_n hx hb dL_put_5 rfl (lv_at hl 2 rfl) ?_
  refine lv_iload_n hx hb dL_put_6 rfl (lv_at hl 3 rfl) ?_
  refine mx_caught (vx_runV (As := [.int x, .int y, .int z]) (rest := [.int (nI 0), .ref (ad 12)]) ⟨hx, hb, hml, hown, hts⟩ (x_X2_put1 l hst G cy ad n k v o hn hk _ x hbad y z) (cwV 3 hts gL_put_X2_put rfl rfl rfl (by decide +kernel) ⟨Nat.le_of_ble_eq_true rfl, Nat.le_of_ble_eq_true rfl⟩) (mP_V (r := (RX2, TX2, 5)) hN hE S_0 rfl) rfl rfl hl.1 rfl (lv_room (Nat.le_of_ble_eq_true rfl)) dL_put_7 ⟨Nat.le_of_ble_eq_true rfl, Nat.le_of_ble_eq_true rfl⟩) hE (fun q9 ce H locs hq1 hq2 hq3 hE => ?_)
  refine vx_catch hown [] ⟨0, 12, 15, 19⟩ [⟨0, 12, 19, 21⟩] htab (fun z hz => absurd hz List.not_mem_nil) rfl (by decide) (hts (.classLink RL 19 "java/lang/IndexOutOfBoundsException") (by decide +kernel)) (va_Nw.use rfl (hN.2.1 (.castable "java/lang/IndexOutOfBoundsException" "java/lang/IndexOutOfBoundsException") (by decide +kernel))) hq1 hq2 hq3 ?_
  dsimp only
  refine lv_astore (lv' := [(5, .ref q9), (0, .ref (ad 0)), (1, .int x), (2, .int y), (3, .int z), (4, .ref (ad 12))]) hx hb dL_put_15 hl (by decide) rfl (fun ls hl => ?_)
  refine lv_iconst (v := nI 1) hx hb dL_put_17 (by decide) ?_
  exact mx_iret hx hb hr hE hlocks ⟨rfl, rfl⟩ dL_put_18

set_option maxHeartbeats 4000000 in
set_option maxRecDepth 100000 in
/-- put of the law, refused -/
theorem x_L_put2 (l : Launch) (hst : l.stackTraces = false) (G : va_G) (cy : Nat → ClassId) (ad : Nat → Nat) (n k : Nat) (v : Nat → Nat → Int32) (o : Nat → Int64) (hn : n ≤ 6) (hk : k ≤ 20) (sz : Nat) (i : Nat) (h_i : i < n) (x : Int32) (hbad : x < 0 ∨ nI 16 ≤ x) (z : Int32) : mMi l yL_put wsL_put ({ frames := 11, cells := 1, slots := 6, locals := 260 }) G cy ad (Sy cy ad n k v o) sz [.ref (ad 0), .int (nI i), .int x, .int z, .ref (ad 12)] 1 6 (fun (r : Int32) u => r = nI 1 ∧ u = (ad, Sy cy ad n k v o)) := by
  refine va_MetW (cc := cL_put) (maxL := 6) (ret := (some .int)) (hh := [(0, 12, 15, 19), (0, 12, 19, 21)]) (by decide) rfl ?_
  intro p e s m args below meth c s₁ B hml hv
  obtain ⟨rfl, hv⟩ := hv
  have hsz := hv.1
  subst hsz
  have hN := hv.2.2
  have hE := mP_E hv
  have hx := B.exec
  have hb := B.bytes
  have hr := B.returns
  have hts := atoms_spec (ws := wsL_put) B.pre
  have hown : s.vm.findClass RL = some m.cls := findClass_of_methodNamed B.named
  have hlocks := B.notSynchronized
  have htab : c.exceptionTable.toList = tableOf [(0, 12, 15, 19), (0, 12, 19, 21)] := vx_table (x := yL_put) B (hts _ List.mem_cons_self)
  have hl := lv_entry ([.ref (ad 0), .int (nI i), .int x, .int z, .ref (ad 12)]) (n := 6) (Nat.le_of_ble_eq_true rfl)
  rw [lg_entry_eq]
  generalize (lg_sl ([.ref (ad 0), .int (nI i), .int x, .int z, .ref (ad 12)]) ++ List.replicate (6 - (lg_sl ([.ref (ad 0), .int (nI i), .int x, .int z, .ref (ad 12)])).length) Slot.unset).toArray = ls at hl ⊢
  have hl : lv_has ls 6 [(0, .ref (ad 0)), (1, .int (nI i)), (2, .int x), (3, .int z), (4, .ref (ad 12))] := hl
  refine lv_aload hx hb dL_put_0 (lv_at hl 4 rfl) ?_
  refine lv_iconst (v := nI 0) hx hb dL_put_2 (by decide) ?_
  refine lv_aload_n hx hb dL_put_3 rfl (lv_at hl 0 rfl) ?_
  refine lv_iload_n hx hb dL_put_4 rfl (lv_at hl 1 rfl) ?_
  refine lv_iload_n hx hb dL_put_5 rfl (lv_at hl 2 rfl) ?_
  refine lv_iload_n hx hb dL_put_6 rfl (lv_at hl 3 rfl) ?_
  refine mx_caught (vx_runV (As := [.int (nI i), .int x, .int z]) (rest := [.int (nI 0), .ref (ad 12)]) ⟨hx, hb, hml, hown, hts⟩ (x_X2_put2 l hst G cy ad n k v o hn hk _ i h_i x hbad z) (cwV 3 hts gL_put_X2_put rfl rfl rfl (by decide +kernel) ⟨Nat.le_of_ble_eq_true rfl, Nat.le_of_ble_eq_true rfl⟩) (mP_V (r := (RX2, TX2, 5)) hN hE S_0 rfl) rfl rfl hl.1 rfl (lv_room (Nat.le_of_ble_eq_true rfl)) dL_put_7 ⟨Nat.le_of_ble_eq_true rfl, Nat.le_of_ble_eq_true rfl⟩) hE (fun q9 ce H locs hq1 hq2 hq3 hE => ?_)
  refine vx_catch hown [] ⟨0, 12, 15, 19⟩ [⟨0, 12, 19, 21⟩] htab (fun z hz => absurd hz List.not_mem_nil) rfl (by decide) (hts (.classLink RL 19 "java/lang/IndexOutOfBoundsException") (by decide +kernel)) (va_Nw.use rfl (hN.2.1 (.castable "java/lang/IndexOutOfBoundsException" "java/lang/IndexOutOfBoundsException") (by decide +kernel))) hq1 hq2 hq3 ?_
  dsimp only
  refine lv_astore (lv' := [(5, .ref q9), (0, .ref (ad 0)), (1, .int (nI i)), (2, .int x), (3, .int z), (4, .ref (ad 12))]) hx hb dL_put_15 hl (by decide) rfl (fun ls hl => ?_)
  refine lv_iconst (v := nI 1) hx hb dL_put_17 (by decide) ?_
  exact mx_iret hx hb hr hE hlocks ⟨rfl, rfl⟩ dL_put_18

set_option maxHeartbeats 4000000 in
set_option maxRecDepth 100000 in
/-- put of the law, refused -/
theorem x_L_put3 (l : Launch) (hst : l.stackTraces = false) (G : va_G) (cy : Nat → ClassId) (ad : Nat → Nat) (n k : Nat) (v : Nat → Nat → Int32) (o : Nat → Int64) (hn : n ≤ 6) (hk : k ≤ 20) (sz : Nat) (i : Nat) (h_i : i < n) (d : Nat) (hd : d < 16) (x : Int32) (hbad : x < 0 ∨ nI 10000 ≤ x) : mMi l yL_put wsL_put ({ frames := 11, cells := 1, slots := 6, locals := 260 }) G cy ad (Sy cy ad n k v o) sz [.ref (ad 0), .int (nI i), .int (nI d), .int x, .ref (ad 12)] 1 6 (fun (r : Int32) u => r = nI 2 ∧ u = (ad, Sy cy ad n k v o)) := by
  refine va_MetW (cc := cL_put) (maxL := 6) (ret := (some .int)) (hh := [(0, 12, 15, 19), (0, 12, 19, 21)]) (by decide) rfl ?_
  intro p e s m args below meth c s₁ B hml hv
  obtain ⟨rfl, hv⟩ := hv
  have hsz := hv.1
  subst hsz
  have hN := hv.2.2
  have hE := mP_E hv
  have hx := B.exec
  have hb := B.bytes
  have hr := B.returns
  have hts := atoms_spec (ws := wsL_put) B.pre
  have hown : s.vm.findClass RL = some m.cls := findClass_of_methodNamed B.named
  have hlocks := B.notSynchronized
  have htab : c.exceptionTable.toList = tableOf [(0, 12, 15, 19), (0, 12, 19, 21)] := vx_table (x := yL_put) B (hts _ List.mem_cons_self)
  have hl := lv_entry ([.ref (ad 0), .int (nI i), .int (nI d), .int x, .ref (ad 12)]) (n := 6) (Nat.le_of_ble_eq_true rfl)
  rw [lg_entry_eq]
  generalize (lg_sl ([.ref (ad 0), .int (nI i), .int (nI d), .int x, .ref (ad 12)]) ++ List.replicate (6 - (lg_sl ([.ref (ad 0), .int (nI i), .int (nI d), .int x, .ref (ad 12)])).length) Slot.unset).toArray = ls at hl ⊢
  have hl : lv_has ls 6 [(0, .ref (ad 0)), (1, .int (nI i)), (2, .int (nI d)), (3, .int x), (4, .ref (ad 12))] := hl
  refine lv_aload hx hb dL_put_0 (lv_at hl 4 rfl) ?_
  refine lv_iconst (v := nI 0) hx hb dL_put_2 (by decide) ?_
  refine lv_aload_n hx hb dL_put_3 rfl (lv_at hl 0 rfl) ?_
  refine lv_iload_n hx hb dL_put_4 rfl (lv_at hl 1 rfl) ?_
  refine lv_iload_n hx hb dL_put_5 rfl (lv_at hl 2 rfl) ?_
  refine lv_iload_n hx hb dL_put_6 rfl (lv_at hl 3 rfl) ?_
  refine mx_caught (vx_runV (As := [.int (nI i), .int (nI d), .int x]) (rest := [.int (nI 0), .ref (ad 12)]) ⟨hx, hb, hml, hown, hts⟩ (x_X2_put3 l hst G cy ad n k v o hn hk _ i h_i d hd x hbad) (cwV 3 hts gL_put_X2_put rfl rfl rfl (by decide +kernel) ⟨Nat.le_of_ble_eq_true rfl, Nat.le_of_ble_eq_true rfl⟩) (mP_V (r := (RX2, TX2, 5)) hN hE S_0 rfl) rfl rfl hl.1 rfl (lv_room (Nat.le_of_ble_eq_true rfl)) dL_put_7 ⟨Nat.le_of_ble_eq_true rfl, Nat.le_of_ble_eq_true rfl⟩) hE (fun q9 ce H locs hq1 hq2 hq3 hE => ?_)
  refine vx_catch hown [⟨0, 12, 15, 19⟩] ⟨0, 12, 19, 21⟩ [] htab (fun z hz => by rw [List.mem_singleton] at hz; subst hz; exact Or.inr ⟨by decide, "java/lang/IndexOutOfBoundsException", (hts (.classLink RL 19 "java/lang/IndexOutOfBoundsException") (by decide +kernel)), hN.2.2.2.2.2.2 ("java/lang/IllegalArgumentException", "java/lang/IndexOutOfBoundsException") (by decide +kernel)⟩) rfl (by decide) (hts (.classLink RL 21 "java/lang/IllegalArgumentException") (by decide +kernel)) (va_Nw.use rfl (hN.2.1 (.castable "java/lang/IllegalArgumentException" "java/lang/IllegalArgumentException") (by decide +kernel))) hq1 hq2 hq3 ?_
  dsimp only
  refine lv_astore (lv' := [(5, .ref q9), (0, .ref (ad 0)), (1, .int (nI i)), (2, .int (nI d)), (3, .int x), (4, .ref (ad 12))]) hx hb dL_put_19 hl (by decide) rfl (fun ls hl => ?_)
  refine lv_iconst (v := nI 2) hx hb dL_put_21 (by decide) ?_
  exact mx_iret hx hb hr hE hlocks ⟨rfl, rfl⟩ dL_put_22

set_option maxHeartbeats 4000000 in
set_option maxRecDepth 100000 in
/-- swap of the law -/
theorem c_L_swap (l : Launch) (G : va_G) (cy : Nat → ClassId) (ad : Nat → Nat) (n k : Nat) (v : Nat → Nat → Int32) (o : Nat → Int64) (hn : n ≤ 6) (hk : k ≤ 20) (sz : Nat) (i : Nat) (h_i : i < n) (a b : Nat) (ha : a < 16) (hb9 : b < 16) : mMi l yL_swap wsL_swap ({ frames := 11, cells := 0, slots := 0, locals := 260 }) G cy ad (Sy cy ad n k v o) sz [.ref (ad 0), .int (nI i), .int (nI a), .int (nI b), .ref (ad 12)] 0 0 (fun (r : Int32) u => r = nI 0 ∧ u = (ad, Sy cy ad n k (mSwap v i a b) (vp_updL o 0 (nI (mApart (mSwap v i a b 3) (mSwap v i a b (300 + i)) 31)).toInt64))) := by
  refine va_MetW (cc := cL_swap) (maxL := 6) (ret := (some .int)) (hh := [(0, 12, 15, 19)]) (by decide) rfl ?_
  intro p e s m args below meth c s₁ B hml hv
  obtain ⟨rfl, hv⟩ := hv
  have hsz := hv.1
  subst hsz
  have hN := hv.2.2
  have hE := mP_E hv
  have hx := B.exec
  have hb := B.bytes
  have hr := B.returns
  have hts := atoms_spec (ws := wsL_swap) B.pre
  have hown : s.vm.findClass RL = some m.cls := findClass_of_methodNamed B.named
  have hlocks := B.notSynchronized
  have htab : c.exceptionTable.toList = tableOf [(0, 12, 15, 19)] := vx_table (x := yL_swap) B (hts _ List.mem_cons_self)
  have hl := lv_entry ([.ref (ad 0), .int (nI i), .int (nI a), .int (nI b), .ref (ad 12)]) (n := 6) (Nat.le_of_ble_eq_true rfl)
  rw [lg_entry_eq]
  generalize (lg_sl ([.ref (ad 0), .int (nI i), .int (nI a), .int (nI b), .ref (ad 12)]) ++ List.replicate (6 - (lg_sl ([.ref (ad 0), .int (nI i), .int (nI a), .int (nI b), .ref (ad 12)])).length) Slot.unset).toArray = ls at hl ⊢
  have hl : lv_has ls 6 [(0, .ref (ad 0)), (1, .int (nI i)), (2, .int (nI a)), (3, .int (nI b)), (4, .ref (ad 12))] := hl
  refine lv_aload hx hb dL_swap_0 (lv_at hl 4 rfl) ?_
  refine lv_iconst (v := nI 0) hx hb dL_swap_2 (by decide) ?_
  refine lv_aload_n hx hb dL_swap_3 rfl (lv_at hl 0 rfl) ?_
  refine lv_iload_n hx hb dL_swap_4 rfl (lv_at hl 1 rfl) ?_
  refine lv_iload_n hx hb dL_swap_5 rfl (lv_at hl 2 rfl) ?_
  refine lv_iload_n hx hb dL_swap_6 rfl (lv_at hl 3 rfl) ?_
  refine va_calli (va_runV (As := [.int (nI i), .int (nI a), .int (nI b)]) (rest := [.int (nI 0), .ref (ad 12)]) ⟨hx, hb, hml, hown, hts⟩ (c_X2_swap l G cy ad n k v o hn hk _ i h_i a b ha hb9) (cwV 3 hts gL_swap_X2_swap rfl rfl rfl (by decide +kernel) ⟨Nat.le_of_ble_eq_true rfl, Nat.le_of_ble_eq_true rfl⟩) (mP_V (r := (RX2, TX2, 5)) hN hE S_0 rfl) rfl rfl hl.1 rfl (lv_room (Nat.le_of_ble_eq_true rfl)) dL_swap_7 ⟨Nat.le_of_ble_eq_true rfl, Nat.le_of_ble_eq_true rfl⟩) hE.2.2.2 (fun q _ h => mE_A hE q h) (mE_A hE) (fun r uq tq H locs ht hvm hw hB hz1 hk1 hS => ?_)
  obtain ⟨rfl, rfl⟩ := hw
  have hE : mE G (mA ad (Sy cy ad n k v o) s.heap.size) s.heap ad (Sy cy ad n k (mSwap v i a b) o) H locs := mE_call hE hB ht hS
  refine lv_i2l hx hb dL_swap_10 rfl ?_
  refine mx_last hx hb hN hE S_12 (j := 0) rfl (by decide) (by decide) dL_swap_11 (fun H locs hE => ?_)
  rw [S_out] at hE
  refine lv_goto (tgt := 19) hx hb dL_swap_12 (by decide) ?_
  refine lv_iconst (v := nI 0) hx hb dL_swap_19 (by decide) ?_
  exact mx_iret hx hb hr hE hlocks ⟨rfl, rfl⟩ dL_swap_20

set_option maxHeartbeats 4000000 in
set_option maxRecDepth 100000 in
/-- swap of the law, refused -/
theorem x_L_swap1 (l : Launch) (hst : l.stackTraces = false) (G : va_G) (cy : Nat → ClassId) (ad : Nat → Nat) (n k : Nat) (v : Nat → Nat → Int32) (o : Nat → Int64) (hn : n ≤ 6) (hk : k ≤ 20) (sz : Nat) (x : Int32) (hbad : x < 0 ∨ nI n ≤ x) (y z : Int32) : mMi l yL_swap wsL_swap ({ frames := 11, cells := 1, slots := 6, locals := 260 }) G cy ad (Sy cy ad n k v o) sz [.ref (ad 0), .int x, .int y, .int z, .ref (ad 12)] 1 6 (fun (r : Int32) u => r = nI 1 ∧ u = (ad, Sy cy ad n k v o)) := by
  refine va_MetW (cc := cL_swap) (maxL := 6) (ret := (some .int)) (hh := [(0, 12, 15, 19)]) (by decide) rfl ?_
  intro p e s m args below meth c s₁ B hml hv
  obtain ⟨rfl, hv⟩ := hv
  have hsz := hv.1
  subst hsz
  have hN := hv.2.2
  have hE := mP_E hv
  have hx := B.exec
  have hb := B.bytes
  have hr := B.returns
  have hts := atoms_spec (ws := wsL_swap) B.pre
  have hown : s.vm.findClass RL = some m.cls := findClass_of_methodNamed B.named
  have hlocks := B.notSynchronized
  have htab : c.exceptionTable.toList = tableOf [(0, 12, 15, 19)] := vx_table (x := yL_swap) B (hts _ List.mem_cons_self)
  have hl := lv_entry ([.ref (ad 0), .int x, .int y, .int z, .ref (ad 12)]) (n := 6) (Nat.le_of_ble_eq_true rfl)
  rw [lg_entry_eq]
  generalize (lg_sl ([.ref (ad 0), .int x, .int y, .int z, .ref (ad 12)]) ++ List.replicate (6 - (lg_sl ([.ref (ad 0), .int x, .int y, .int z, .ref (ad 12)])).length) Slot.unset).toArray = ls at hl ⊢
  have hl : lv_has ls 6 [(0, .ref (ad 0)), (1, .int x), (2, .int y), (3, .int z), (4, .ref (ad 12))] := hl
  refine lv_aload hx hb dL_swap_0 (lv_at hl 4 rfl) ?_
  refine lv_iconst (v := nI 0) hx hb dL_swap_2 (by decide) ?_
  refine lv_aload_n hx hb dL_swap_3 rfl (lv_at hl 0 rfl) ?_
  refine lv_iload_n hx hb dL_swap_4 rfl (lv_at hl 1 rfl) ?_
  refine lv_iload_n hx hb dL_swap_5 rfl (lv_at hl 2 rfl) ?_
  refine lv_iload_n hx hb dL_swap_6 rfl (lv_at hl 3 rfl) ?_
  refine mx_caught (vx_runV (As := [.int x, .int y, .int z]) (rest := [.int (nI 0), .ref (ad 12)]) ⟨hx, hb, hml, hown, hts⟩ (x_X2_swap1 l hst G cy ad n k v o hn hk _ x hbad y z) (cwV 3 hts gL_swap_X2_swap rfl rfl rfl (by decide +kernel) ⟨Nat.le_of_ble_eq_true rfl, Nat.le_of_ble_eq_true rfl⟩) (mP_V (r := (RX2, TX2, 5)) hN hE S_0 rfl) rfl rfl hl.1 rfl (lv_room (Nat.le_of_ble_eq_true rfl)) dL_swap_7 ⟨Nat.le_of_ble_eq_true rfl, Nat.le_of_ble_eq_true rfl⟩) hE (fun q9 ce H locs hq1 hq2 hq3 hE => ?_)
  refine vx_catch hown [] ⟨0, 12, 15, 19⟩ [] htab (fun z hz => absurd hz List.not_mem_nil) rfl (by decide) (hts (.classLink RL 19 "java/lang/IndexOutOfBoundsException") (by decide +kernel)) (va_Nw.use rfl (hN.2.1 (.castable "java/lang/IndexOutOfBoundsException" "java/lang/IndexOutOfBoundsException") (by decide +kernel))) hq1 hq2 hq3 ?_
  dsimp only
  refine lv_astore (lv' := [(5, .ref q9), (0, .ref (ad 0)), (1, .int x), (2, .int y), (3, .int z), (4, .ref (ad 12))]) hx hb dL_swap_15 hl (by decide) rfl (fun ls hl => ?_)
  refine lv_iconst (v := nI 1) hx hb dL_swap_17 (by decide) ?_
  exact mx_iret hx hb hr hE hlocks ⟨rfl, rfl⟩ dL_swap_18

set_option maxHeartbeats 4000000 in
set_option maxRecDepth 100000 in
/-- swap of the law, refused -/
theorem x_L_swap2 (l : Launch) (hst : l.stackTraces = false) (G : va_G) (cy : Nat → ClassId) (ad : Nat → Nat) (n k : Nat) (v : Nat → Nat → Int32) (o : Nat → Int64) (hn : n ≤ 6) (hk : k ≤ 20) (sz : Nat) (i : Nat) (h_i : i < n) (x : Int32) (hbad : x < 0 ∨ nI 16 ≤ x) (z : Int32) : mMi l yL_swap wsL_swap ({ frames := 11, cells := 1, slots := 6, locals := 260 }) G cy ad (Sy cy ad n k v o) sz [.ref (ad 0), .int (nI i), .int x, .int z, .ref (ad 12)] 1 6 (fun (r : Int32) u => r = nI 1 ∧ u = (ad, Sy cy ad n k v o)) := by
  refine va_MetW (cc := cL_swap) (maxL := 6) (ret := (some .int)) (hh := [(0, 12, 15, 19)]) (by decide) rfl ?_
  intro p e s m args below meth c s₁ B hml hv
  obtain ⟨rfl, hv⟩ := hv
  have hsz := hv.1
  subst hsz
  have hN := hv.2.2
  have hE := mP_E hv
  have hx := B.exec
  have hb := B.bytes
  have hr := B.returns
  have hts := atoms_spec (ws := wsL_swap) B.pre
  have hown : s.vm.findClass RL = some m.cls := findClass_of_methodNamed B.named
  have hlocks := B.notSynchronized
  have htab : c.exceptionTable.toList = tableOf [(0, 12, 15, 19)] := vx_table (x := yL_swap) B (hts _ List.mem_cons_self)
  have hl := lv_entry ([.ref (ad 0), .int (nI i), .int x, .int z, .ref (ad 12)]) (n := 6) (Nat.le_of_ble_eq_true rfl)
  rw [lg_entry_eq]
  generalize (lg_sl ([.ref (ad 0), .int (nI i), .int x, .int z, .ref (ad 12)]) ++ List.replicate (6 - (lg_sl ([.ref (ad 0), .int (nI i), .int x, .int z, .ref (ad 12)])).length) Slot.unset).toArray = ls at hl ⊢
  have hl : lv_has ls 6 [(0, .ref (ad 0)), (1, .int (nI i)), (2, .int x), (3, .int z), (4, .ref (ad 12))] := hl
  refine lv_aload hx hb dL_swap_0 (lv_at hl 4 rfl) ?_
  refine lv_iconst (v := nI 0) hx hb dL_swap_2 (by decide) ?_
  refine lv_aload_n hx hb dL_swap_3 rfl (lv_at hl 0 rfl) ?_
  refine lv_iload_n hx hb dL_swap_4 rfl (lv_at hl 1 rfl) ?_
  refine lv_iload_n hx hb dL_swap_5 rfl (lv_at hl 2 rfl) ?_
  refine lv_iload_n hx hb dL_swap_6 rfl (lv_at hl 3 rfl) ?_
  refine mx_caught (vx_runV (As := [.int (nI i), .int x, .int z]) (rest := [.int (nI 0), .ref (ad 12)]) ⟨hx, hb, hml, hown, hts⟩ (x_X2_swap2 l hst G cy ad n k v o hn hk _ i h_i x hbad z) (cwV 3 hts gL_swap_X2_swap rfl rfl rfl (by decide +kernel) ⟨Nat.le_of_ble_eq_true rfl, Nat.le_of_ble_eq_true rfl⟩) (mP_V (r := (RX2, TX2, 5)) hN hE S_0 rfl) rfl rfl hl.1 rfl (lv_room (Nat.le_of_ble_eq_true rfl)) dL_swap_7 ⟨Nat.le_of_ble_eq_true rfl, Nat.le_of_ble_eq_true rfl⟩) hE (fun q9 ce H locs hq1 hq2 hq3 hE => ?_)
  refine vx_catch hown [] ⟨0, 12, 15, 19⟩ [] htab (fun z hz => absurd hz List.not_mem_nil) rfl (by decide) (hts (.classLink RL 19 "java/lang/IndexOutOfBoundsException") (by decide +kernel)) (va_Nw.use rfl (hN.2.1 (.castable "java/lang/IndexOutOfBoundsException" "java/lang/IndexOutOfBoundsException") (by decide +kernel))) hq1 hq2 hq3 ?_
  dsimp only
  refine lv_astore (lv' := [(5, .ref q9), (0, .ref (ad 0)), (1, .int (nI i)), (2, .int x), (3, .int z), (4, .ref (ad 12))]) hx hb dL_swap_15 hl (by decide) rfl (fun ls hl => ?_)
  refine lv_iconst (v := nI 1) hx hb dL_swap_17 (by decide) ?_
  exact mx_iret hx hb hr hE hlocks ⟨rfl, rfl⟩ dL_swap_18

set_option maxHeartbeats 4000000 in
set_option maxRecDepth 100000 in
/-- swap of the law, refused -/
theorem x_L_swap3 (l : Launch) (hst : l.stackTraces = false) (G : va_G) (cy : Nat → ClassId) (ad : Nat → Nat) (n k : Nat) (v : Nat → Nat → Int32) (o : Nat → Int64) (hn : n ≤ 6) (hk : k ≤ 20) (sz : Nat) (i : Nat) (h_i : i < n) (d : Nat) (hd : d < 16) (x : Int32) (hbad : x < 0 ∨ nI 16 ≤ x) : mMi l yL_swap wsL_swap ({ frames := 11, cells := 1, slots := 6, locals := 260 }) G cy ad (Sy cy ad n k v o) sz [.ref (ad 0), .int (nI i), .int (nI d), .int x, .ref (ad 12)] 1 6 (fun (r : Int32) u => r = nI 1 ∧ u = (ad, Sy cy ad n k v o)) := by
  refine va_MetW (cc := cL_swap) (maxL := 6) (ret := (some .int)) (hh := [(0, 12, 15, 19)]) (by decide) rfl ?_
  intro p e s m args below meth c s₁ B hml hv
  obtain ⟨rfl, hv⟩ := hv
  have hsz := hv.1
  subst hsz
  have hN := hv.2.2
  have hE := mP_E hv
  have hx := B.exec
  have hb := B.bytes
  have hr := B.returns
  have hts := atoms_spec (ws := wsL_swap) B.pre
  have hown : s.vm.findClass RL = some m.cls := findClass_of_methodNamed B.named
  have hlocks := B.notSynchronized
  have htab : c.exceptionTable.toList = tableOf [(0, 12, 15, 19)] := vx_table (x := yL_swap) B (hts _ List.mem_cons_self)
  have hl := lv_entry ([.ref (ad 0), .int (nI i), .int (nI d), .int x, .ref (ad 12)]) (n := 6) (Nat.le_of_ble_eq_true rfl)
  rw [lg_entry_eq]
  generalize (lg_sl ([.ref (ad 0), .int (nI i), .int (nI d), .int x, .ref (ad 12)]) ++ List.replicate (6 - (lg_sl ([.ref (ad 0), .int (nI i), .int (nI d), .int x, .ref (ad 12)])).length) Slot.unset).toArray = ls at hl ⊢
  have hl : lv_has ls 6 [(0, .ref (ad 0)), (1, .int (nI i)), (2, .int (nI d)), (3, .int x), (4, .ref (ad 12))] := hl
  refine lv_aload hx hb dL_swap_0 (lv_at hl 4 rfl) ?_
  refine lv_iconst (v := nI 0) hx hb dL_swap_2 (by decide) ?_
  refine lv_aload_n hx hb dL_swap_3 rfl (lv_at hl 0 rfl) ?_
  refine lv_iload_n hx hb dL_swap_4 rfl (lv_at hl 1 rfl) ?_
  refine lv_iload_n hx hb dL_swap_5 rfl (lv_at hl 2 rfl) ?_
  refine lv_iload_n hx hb dL_swap_6 rfl (lv_at hl 3 rfl) ?_
  refine mx_caught (vx_runV (As := [.int (nI i), .int (nI d), .int x]) (rest := [.int (nI 0), .ref (ad 12)]) ⟨hx, hb, hml, hown, hts⟩ (x_X2_swap3 l hst G cy ad n k v o hn hk _ i h_i d hd x hbad) (cwV 3 hts gL_swap_X2_swap rfl rfl rfl (by decide +kernel) ⟨Nat.le_of_ble_eq_true rfl, Nat.le_of_ble_eq_true rfl⟩) (mP_V (r := (RX2, TX2, 5)) hN hE S_0 rfl) rfl rfl hl.1 rfl (lv_room (Nat.le_of_ble_eq_true rfl)) dL_swap_7 ⟨Nat.le_of_ble_eq_true rfl, Nat.le_of_ble_eq_true rfl⟩) hE (fun q9 ce H locs hq1 hq2 hq3 hE => ?_)
  refine vx_catch hown [] ⟨0, 12, 15, 19⟩ [] htab (fun z hz => absurd hz List.not_mem_nil) rfl (by decide) (hts (.classLink RL 19 "java/lang/IndexOutOfBoundsException") (by decide +kernel)) (va_Nw.use rfl (hN.2.1 (.castable "java/lang/IndexOutOfBoundsException" "java/lang/IndexOutOfBoundsException") (by decide +kernel))) hq1 hq2 hq3 ?_
  dsimp only
  refine lv_astore (lv' := [(5, .ref q9), (0, .ref (ad 0)), (1, .int (nI i)), (2, .int (nI d)), (3, .int x), (4, .ref (ad 12))]) hx hb dL_swap_15 hl (by decide) rfl (fun ls hl => ?_)
  refine lv_iconst (v := nI 1) hx hb dL_swap_17 (by decide) ?_
  exact mx_iret hx hb hr hE hlocks ⟨rfl, rfl⟩ dL_swap_18

set_option maxHeartbeats 4000000 in
set_option maxRecDepth 100000 in
/-- sum of the law -/
theorem c_L_sum (l : Launch) (G : va_G) (cy : Nat → ClassId) (ad : Nat → Nat) (n k : Nat) (v : Nat → Nat → Int32) (o : Nat → Int64) (hn : n ≤ 6) (hk : k ≤ 20) (sz : Nat) (i : Nat) (h_i : i < n) (q : Nat) (hq1 : 1 ≤ q) (hq : q ≤ 31) : mMi l yL_sum wsL_sum ({ frames := 9, cells := 0, slots := 0, locals := 180 }) G cy ad (Sy cy ad n k v o) sz [.ref (ad 0), .int (nI i), .int (nI q), .ref (ad 12)] 0 0 (fun (r : Int32) u => r = nI 0 ∧ u = (ad, Sy cy ad n k v (vp_updL o 0 (v (300 + i) q).toInt64))) := by
  refine va_MetW (cc := cL_sum) (maxL := 5) (ret := (some .int)) (hh := [(0, 10, 13, 19)]) (by decide) rfl ?_
  intro p e s m args below meth c s₁ B hml hv
  obtain ⟨rfl, hv⟩ := hv
  have hsz := hv.1
  subst hsz
  have hN := hv.2.2
  have hE := mP_E hv
  have hx := B.exec
  have hb := B.bytes
  have hr := B.returns
  have hts := atoms_spec (ws := wsL_sum) B.pre
  have hown : s.vm.findClass RL = some m.cls := findClass_of_methodNamed B.named
  have hlocks := B.notSynchronized
  have htab : c.exceptionTable.toList = tableOf [(0, 10, 13, 19)] := vx_table (x := yL_sum) B (hts _ List.mem_cons_self)
  have hl := lv_entry ([.ref (ad 0), .int (nI i), .int (nI q), .ref (ad 12)]) (n := 5) (Nat.le_of_ble_eq_true rfl)
  rw [lg_entry_eq]
  generalize (lg_sl ([.ref (ad 0), .int (nI i), .int (nI q), .ref (ad 12)]) ++ List.replicate (5 - (lg_sl ([.ref (ad 0), .int (nI i), .int (nI q), .ref (ad 12)])).length) Slot.unset).toArray = ls at hl ⊢
  have hl : lv_has ls 5 [(0, .ref (ad 0)), (1, .int (nI i)), (2, .int (nI q)), (3, .ref (ad 12))] := hl
  refine lv_aload_n hx hb dL_sum_0 rfl (lv_at hl 3 rfl) ?_
  refine lv_iconst (v := nI 0) hx hb dL_sum_1 (by decide) ?_
  refine lv_aload_n hx hb dL_sum_2 rfl (lv_at hl 0 rfl) ?_
  refine lv_iload_n hx hb dL_sum_3 rfl (lv_at hl 1 rfl) ?_
  refine lv_iload_n hx hb dL_sum_4 rfl (lv_at hl 2 rfl) ?_
  refine va_calli (va_runV (As := [.int (nI i), .int (nI q)]) (rest := [.int (nI 0), .ref (ad 12)]) ⟨hx, hb, hml, hown, hts⟩ (c_X2_sum l G cy ad n k v o hn hk _ i h_i q hq1 hq) (cwV 2 hts gL_sum_X2_sum rfl rfl rfl (by decide +kernel) ⟨Nat.le_of_ble_eq_true rfl, Nat.le_of_ble_eq_true rfl⟩) (mP_V (r := (RX2, TX2, 5)) hN hE S_0 rfl) rfl rfl hl.1 rfl (lv_room (Nat.le_of_ble_eq_true rfl)) dL_sum_5 ⟨Nat.le_of_ble_eq_true rfl, Nat.le_of_ble_eq_true rfl⟩) hE.2.2.2 (fun q _ h => mE_A hE q h) (mE_A hE) (fun r uq tq H locs ht hvm hw hB hz1 hk1 hS => ?_)
  obtain ⟨rfl, rfl⟩ := hw
  have hE : mE G (mA ad (Sy cy ad n k v o) s.heap.size) s.heap ad (Sy cy ad n k v o) H locs := mE_call hE hB ht hS
  refine lv_i2l hx hb dL_sum_8 rfl ?_
  refine mx_last hx hb hN hE S_12 (j := 0) rfl (by decide) (by decide) dL_sum_9 (fun H locs hE => ?_)
  rw [S_out] at hE
  refine lv_goto (tgt := 17) hx hb dL_sum_10 (by decide) ?_
  refine lv_iconst (v := nI 0) hx hb dL_sum_17 (by decide) ?_
  exact mx_iret hx hb hr hE hlocks ⟨rfl, rfl⟩ dL_sum_18

set_option maxHeartbeats 4000000 in
set_option maxRecDepth 100000 in
/-- sum of the law, refused -/
theorem x_L_sum1 (l : Launch) (hst : l.stackTraces = false) (G : va_G) (cy : Nat → ClassId) (ad : Nat → Nat) (n k : Nat) (v : Nat → Nat → Int32) (o : Nat → Int64) (hn : n ≤ 6) (hk : k ≤ 20) (sz : Nat) (x : Int32) (hbad : x < 0 ∨ nI n ≤ x) (y : Int32) : mMi l yL_sum wsL_sum ({ frames := 9, cells := 1, slots := 6, locals := 180 }) G cy ad (Sy cy ad n k v o) sz [.ref (ad 0), .int x, .int y, .ref (ad 12)] 1 6 (fun (r : Int32) u => r = nI 1 ∧ u = (ad, Sy cy ad n k v o)) := by
  refine va_MetW (cc := cL_sum) (maxL := 5) (ret := (some .int)) (hh := [(0, 10, 13, 19)]) (by decide) rfl ?_
  intro p e s m args below meth c s₁ B hml hv
  obtain ⟨rfl, hv⟩ := hv
  have hsz := hv.1
  subst hsz
  have hN := hv.2.2
  have hE := mP_E hv
  have hx := B.exec
  have hb := B.bytes
  have hr := B.returns
  have hts := atoms_spec (ws := wsL_sum) B.pre
  have hown : s.vm.findClass RL = some m.cls := findClass_of_methodNamed B.named
  have hlocks := B.notSynchronized
  have htab : c.exceptionTable.toList = tableOf [(0, 10, 13, 19)] := vx_table (x := yL_sum) B (hts _ List.mem_cons_self)
  have hl := lv_entry ([.ref (ad 0), .int x, .int y, .ref (ad 12)]) (n := 5) (Nat.le_of_ble_eq_true rfl)
  rw [lg_entry_eq]
  generalize (lg_sl ([.ref (ad 0), .int x, .int y, .ref (ad 12)]) ++ List.replicate (5 - (lg_sl ([.ref (ad 0), .int x, .int y, .ref (ad 12)])).length) Slot.unset).toArray = ls at hl ⊢
  have hl : lv_has ls 5 [(0, .ref (ad 0)), (1, .int x), (2, .int y), (3, .ref (ad 12))] := hl
  refine lv_aload_n hx hb dL_sum_0 rfl (lv_at hl 3 rfl) ?_
  refine lv_iconst (v := nI 0) hx hb dL_sum_1 (by decide) ?_
  refine lv_aload_n hx hb dL_sum_2 rfl (lv_at hl 0 rfl) ?_
  refine lv_iload_n hx hb dL_sum_3 rfl (lv_at hl 1 rfl) ?_
  refine lv_iload_n hx hb dL_sum_4 rfl (lv_at hl 2 rfl) ?_
  refine mx_caught (vx_runV (As := [.int x, .int y]) (rest := [.int (nI 0), .ref (ad 12)]) ⟨hx, hb, hml, hown, hts⟩ (x_X2_sum1 l hst G cy ad n k v o hn hk _ x hbad y) (cwV 2 hts gL_sum_X2_sum rfl rfl rfl (by decide +kernel) ⟨Nat.le_of_ble_eq_true rfl, Nat.le_of_ble_eq_true rfl⟩) (mP_V (r := (RX2, TX2, 5)) hN hE S_0 rfl) rfl rfl hl.1 rfl (lv_room (Nat.le_of_ble_eq_true rfl)) dL_sum_5 ⟨Nat.le_of_ble_eq_true rfl, Nat.le_of_ble_eq_true rfl⟩) hE (fun q9 ce H locs hq1 hq2 hq3 hE => ?_)
  refine vx_catch hown [] ⟨0, 10, 13, 19⟩ [] htab (fun z hz => absurd hz List.not_mem_nil) rfl (by decide) (hts (.classLink RL 19 "java/lang/IndexOutOfBoundsException") (by decide +kernel)) (va_Nw.use rfl (hN.2.1 (.castable "java/lang/IndexOutOfBoundsException" "java/lang/IndexOutOfBoundsException") (by decide +kernel))) hq1 hq2 hq3 ?_
  dsimp only
  refine lv_astore (lv' := [(4, .ref q9), (0, .ref (ad 0)), (1, .int x), (2, .int y), (3, .ref (ad 12))]) hx hb dL_sum_13 hl (by decide) rfl (fun ls hl => ?_)
  refine lv_iconst (v := nI 1) hx hb dL_sum_15 (by decide) ?_
  exact mx_iret hx hb hr hE hlocks ⟨rfl, rfl⟩ dL_sum_16

set_option maxHeartbeats 4000000 in
set_option maxRecDepth 100000 in
/-- sum of the law, refused -/
theorem x_L_sum2 (l : Launch) (hst : l.stackTraces = false) (G : va_G) (cy : Nat → ClassId) (ad : Nat → Nat) (n k : Nat) (v : Nat → Nat → Int32) (o : Nat → Int64) (hn : n ≤ 6) (hk : k ≤ 20) (sz : Nat) (i : Nat) (h_i : i < n) (x : Int32) (hbad : x < nI 1 ∨ nI 31 < x) : mMi l yL_sum wsL_sum ({ frames := 9, cells := 1, slots := 6, locals := 180 }) G cy ad (Sy cy ad n k v o) sz [.ref (ad 0), .int (nI i), .int x, .ref (ad 12)] 1 6 (fun (r : Int32) u => r = nI 1 ∧ u = (ad, Sy cy ad n k v o)) := by
  refine va_MetW (cc := cL_sum) (maxL := 5) (ret := (some .int)) (hh := [(0, 10, 13, 19)]) (by decide) rfl ?_
  intro p e s m args below meth c s₁ B hml hv
  obtain ⟨rfl, hv⟩ := hv
  have hsz := hv.1
  subst hsz
  have hN := hv.2.2
  have hE := mP_E hv
  have hx := B.exec
  have hb := B.bytes
  have hr := B.returns
  have hts := atoms_spec (ws := wsL_sum) B.pre
  have hown : s.vm.findClass RL = some m.cls := findClass_of_methodNamed B.named
  have hlocks := B.notSynchronized
  have htab : c.exceptionTable.toList = tableOf [(0, 10, 13, 19)] := vx_table (x := yL_sum) B (hts _ List.mem_cons_self)
  have hl := lv_entry ([.ref (ad 0), .int (nI i), .int x, .ref (ad 12)]) (n := 5) (Nat.le_of_ble_eq_true rfl)
  rw [lg_entry_eq]
  generalize (lg_sl ([.ref (ad 0), .int (nI i), .int x, .ref (ad 12)]) ++ List.replicate (5 - (lg_sl ([.ref (ad 0), .int (nI i), .int x, .ref (ad 12)])).length) Slot.unset).toArray = ls at hl ⊢
  have hl : lv_has ls 5 [(0, .ref (ad 0)), (1, .int (nI i)), (2, .int x), (3, .ref (ad 12))] := hl
  refine lv_aload_n hx hb dL_sum_0 rfl (lv_at hl 3 rfl) ?_
  refine lv_iconst (v := nI 0) hx hb dL_sum_1 (by decide) ?_
  refine lv_aload_n hx hb dL_sum_2 rfl (lv_at hl 0 rfl) ?_
  refine lv_iload_n hx hb dL_sum_3 rfl (lv_at hl 1 rfl) ?_
  refine lv_iload_n hx hb dL_sum_4 rfl (lv_at hl 2 rfl) ?_
  refine mx_caught (vx_runV (As := [.int (nI i), .int x]) (rest := [.int (nI 0), .ref (ad 12)]) ⟨hx, hb, hml, hown, hts⟩ (x_X2_sum2 l hst G cy ad n k v o hn hk _ i h_i x hbad) (cwV 2 hts gL_sum_X2_sum rfl rfl rfl (by decide +kernel) ⟨Nat.le_of_ble_eq_true rfl, Nat.le_of_ble_eq_true rfl⟩) (mP_V (r := (RX2, TX2, 5)) hN hE S_0 rfl) rfl rfl hl.1 rfl (lv_room (Nat.le_of_ble_eq_true rfl)) dL_sum_5 ⟨Nat.le_of_ble_eq_true rfl, Nat.le_of_ble_eq_true rfl⟩) hE (fun q9 ce H locs hq1 hq2 hq3 hE => ?_)
  refine vx_catch hown [] ⟨0, 10, 13, 19⟩ [] htab (fun z hz => absurd hz List.not_mem_nil) rfl (by decide) (hts (.classLink RL 19 "java/lang/IndexOutOfBoundsException") (by decide +kernel)) (va_Nw.use rfl (hN.2.1 (.castable "java/lang/IndexOutOfBoundsException" "java/lang/IndexOutOfBoundsException") (by decide +kernel))) hq1 hq2 hq3 ?_
  dsimp only
  refine lv_astore (lv' := [(4, .ref q9), (0, .ref (ad 0)), (1, .int (nI i)), (2, .int x), (3, .ref (ad 12))]) hx hb dL_sum_13 hl (by decide) rfl (fun ls hl => ?_)
  refine lv_iconst (v := nI 1) hx hb dL_sum_15 (by decide) ?_
  exact mx_iret hx hb hr hE hlocks ⟨rfl, rfl⟩ dL_sum_16

set_option maxHeartbeats 4000000 in
set_option maxRecDepth 100000 in
/-- told of the law -/
theorem c_L_told (l : Launch) (G : va_G) (cy : Nat → ClassId) (ad : Nat → Nat) (n k : Nat) (v : Nat → Nat → Int32) (o : Nat → Int64) (hn : n ≤ 6) (hk : k ≤ 20) (sz : Nat) (i : Nat) (h_i : i < n) (t9 : Nat) (ht9 : t9 < 6) : mMi l yL_told wsL_told ({ frames := 9, cells := 0, slots := 0, locals := 180 }) G cy ad (Sy cy ad n k v o) sz [.ref (ad 0), .int (nI i), .int (nI t9), .ref (ad 12)] 0 0 (fun (r : Int32) u => r = nI 0 ∧ u = (ad, Sy cy ad n k v (vp_updL o 0 (mTold v k i t9).toInt64))) := by
  refine va_MetW (cc := cL_told) (maxL := 5) (ret := (some .int)) (hh := [(0, 10, 13, 19)]) (by decide) rfl ?_
  intro p e s m args below meth c s₁ B hml hv
  obtain ⟨rfl, hv⟩ := hv
  have hsz := hv.1
  subst hsz
  have hN := hv.2.2
  have hE := mP_E hv
  have hx := B.exec
  have hb := B.bytes
  have hr := B.returns
  have hts := atoms_spec (ws := wsL_told) B.pre
  have hown : s.vm.findClass RL = some m.cls := findClass_of_methodNamed B.named
  have hlocks := B.notSynchronized
  have htab : c.exceptionTable.toList = tableOf [(0, 10, 13, 19)] := vx_table (x := yL_told) B (hts _ List.mem_cons_self)
  have hl := lv_entry ([.ref (ad 0), .int (nI i), .int (nI t9), .ref (ad 12)]) (n := 5) (Nat.le_of_ble_eq_true rfl)
  rw [lg_entry_eq]
  generalize (lg_sl ([.ref (ad 0), .int (nI i), .int (nI t9), .ref (ad 12)]) ++ List.replicate (5 - (lg_sl ([.ref (ad 0), .int (nI i), .int (nI t9), .ref (ad 12)])).length) Slot.unset).toArray = ls at hl ⊢
  have hl : lv_has ls 5 [(0, .ref (ad 0)), (1, .int (nI i)), (2, .int (nI t9)), (3, .ref (ad 12))] := hl
  refine lv_aload_n hx hb dL_told_0 rfl (lv_at hl 3 rfl) ?_
  refine lv_iconst (v := nI 0) hx hb dL_told_1 (by decide) ?_
  refine lv_aload_n hx hb dL_told_2 rfl (lv_at hl 0 rfl) ?_
  refine lv_iload_n hx hb dL_told_3 rfl (lv_at hl 1 rfl) ?_
  refine lv_iload_n hx hb dL_told_4 rfl (lv_at hl 2 rfl) ?_
  refine va_calli (va_runV (As := [.int (nI i), .int (nI t9)]) (rest := [.int (nI 0), .ref (ad 12)]) ⟨hx, hb, hml, hown, hts⟩ (c_X2_told l G cy ad n k v o hn hk _ i h_i t9 ht9) (cwV 2 hts gL_told_X2_told rfl rfl rfl (by decide +kernel) ⟨Nat.le_of_ble_eq_true rfl, Nat.le_of_ble_eq_true rfl⟩) (mP_V (r := (RX2, TX2, 5)) hN hE S_0 rfl) rfl rfl hl.1 rfl (lv_room (Nat.le_of_ble_eq_true rfl)) dL_told_5 ⟨Nat.le_of_ble_eq_true rfl, Nat.le_of_ble_eq_true rfl⟩) hE.2.2.2 (fun q _ h => mE_A hE q h) (mE_A hE) (fun r uq tq H locs ht hvm hw hB hz1 hk1 hS => ?_)
  obtain ⟨rfl, rfl⟩ := hw
  have hE : mE G (mA ad (Sy cy ad n k v o) s.heap.size) s.heap ad (Sy cy ad n k v o) H locs := mE_call hE hB ht hS
  refine lv_i2l hx hb dL_told_8 rfl ?_
  refine mx_last hx hb hN hE S_12 (j := 0) rfl (by decide) (by decide) dL_told_9 (fun H locs hE => ?_)
  rw [S_out] at hE
  refine lv_goto (tgt := 17) hx hb dL_told_10 (by decide) ?_
  refine lv_iconst (v := nI 0) hx hb dL_told_17 (by decide) ?_
  exact mx_iret hx hb hr hE hlocks ⟨rfl, rfl⟩ dL_told_18

set_option maxHeartbeats 4000000 in
set_option maxRecDepth 100000 in
/-- told of the law, refused -/
theorem x_L_told1 (l : Launch) (hst : l.stackTraces = false) (G : va_G) (cy : Nat → ClassId) (ad : Nat → Nat) (n k : Nat) (v : Nat → Nat → Int32) (o : Nat → Int64) (hn : n ≤ 6) (hk : k ≤ 20) (sz : Nat) (x : Int32) (hbad : x < 0 ∨ nI n ≤ x) (y : Int32) : mMi l yL_told wsL_told ({ frames := 9, cells := 1, slots := 6, locals := 180 }) G cy ad (Sy cy ad n k v o) sz [.ref (ad 0), .int x, .int y, .ref (ad 12)] 1 6 (fun (r : Int32) u => r = nI 1 ∧ u = (ad, Sy cy ad n k v o)) := by
  refine va_MetW (cc := cL_told) (maxL := 5) (ret := (some .int)) (hh := [(0, 10, 13, 19)]) (by decide) rfl ?_
  intro p e s m args below meth c s₁ B hml hv
  obtain ⟨rfl, hv⟩ := hv
  have hsz := hv.1
  subst hsz
  have hN := hv.2.2
  have hE := mP_E hv
  have hx := B.exec
  have hb := B.bytes
  have hr := B.returns
  have hts := atoms_spec (ws := wsL_told) B.pre
  have hown : s.vm.findClass RL = some m.cls := findClass_of_methodNamed B.named
  have hlocks := B.notSynchronized
  have htab : c.exceptionTable.toList = tableOf [(0, 10, 13, 19)] := vx_table (x := yL_told) B (hts _ List.mem_cons_self)
  have hl := lv_entry ([.ref (ad 0), .int x, .int y, .ref (ad 12)]) (n := 5) (Nat.le_of_ble_eq_true rfl)
  rw [lg_entry_eq]
  generalize (lg_sl ([.ref (ad 0), .int x, .int y, .ref (ad 12)]) ++ List.replicate (5 - (lg_sl ([.ref (ad 0), .int x, .int y, .ref (ad 12)])).length) Slot.unset).toArray = ls at hl ⊢
  have hl : lv_has ls 5 [(0, .ref (ad 0)), (1, .int x), (2, .int y), (3, .ref (ad 12))] := hl
  refine lv_aload_n hx hb dL_told_0 rfl (lv_at hl 3 rfl) ?_
  refine lv_iconst (v := nI 0) hx hb dL_told_1 (by decide) ?_
  refine lv_aload_n hx hb dL_told_2 rfl (lv_at hl 0 rfl) ?_
  refine lv_iload_n hx hb dL_told_3 rfl (lv_at hl 1 rfl) ?_
  refine lv_iload_n hx hb dL_told_4 rfl (lv_at hl 2 rfl) ?_
  refine mx_caught (vx_runV (As := [.int x, .int y]) (rest := [.int (nI 0), .ref (ad 12)]) ⟨hx, hb, hml, hown, hts⟩ (x_X2_told1 l hst G cy ad n k v o hn hk _ x hbad y) (cwV 2 hts gL_told_X2_told rfl rfl rfl (by decide +kernel) ⟨Nat.le_of_ble_eq_true rfl, Nat.le_of_ble_eq_true rfl⟩) (mP_V (r := (RX2, TX2, 5)) hN hE S_0 rfl) rfl rfl hl.1 rfl (lv_room (Nat.le_of_ble_eq_true rfl)) dL_told_5 ⟨Nat.le_of_ble_eq_true rfl, Nat.le_of_ble_eq_true rfl⟩) hE (fun q9 ce H locs hq1 hq2 hq3 hE => ?_)
  refine vx_catch hown [] ⟨0, 10, 13, 19⟩ [] htab (fun z hz => absurd hz List.not_mem_nil) rfl (by decide) (hts (.classLink RL 19 "java/lang/IndexOutOfBoundsException") (by decide +kernel)) (va_Nw.use rfl (hN.2.1 (.castable "java/lang/IndexOutOfBoundsException" "java/lang/IndexOutOfBoundsException") (by decide +kernel))) hq1 hq2 hq3 ?_
  dsimp only
  refine lv_astore (lv' := [(4, .ref q9), (0, .ref (ad 0)), (1, .int x), (2, .int y), (3, .ref (ad 12))]) hx hb dL_told_13 hl (by decide) rfl (fun ls hl => ?_)
  refine lv_iconst (v := nI 1) hx hb dL_told_15 (by decide) ?_
  exact mx_iret hx hb hr hE hlocks ⟨rfl, rfl⟩ dL_told_16

set_option maxHeartbeats 4000000 in
set_option maxRecDepth 100000 in
/-- told of the law, refused -/
theorem x_L_told2 (l : Launch) (hst : l.stackTraces = false) (G : va_G) (cy : Nat → ClassId) (ad : Nat → Nat) (n k : Nat) (v : Nat → Nat → Int32) (o : Nat → Int64) (hn : n ≤ 6) (hk : k ≤ 20) (sz : Nat) (i : Nat) (h_i : i < n) (x : Int32) (hbad : x < 0 ∨ nI 6 ≤ x) : mMi l yL_told wsL_told ({ frames := 9, cells := 1, slots := 6, locals := 180 }) G cy ad (Sy cy ad n k v o) sz [.ref (ad 0), .int (nI i), .int x, .ref (ad 12)] 1 6 (fun (r : Int32) u => r = nI 1 ∧ u = (ad, Sy cy ad n k v o)) := by
  refine va_MetW (cc := cL_told) (maxL := 5) (ret := (some .int)) (hh := [(0, 10, 13, 19)]) (by decide) rfl ?_
  intro p e s m args below meth c s₁ B hml hv
  obtain ⟨rfl, hv⟩ := hv
  have hsz := hv.1
  subst hsz
  have hN := hv.2.2
  have hE := mP_E hv
  have hx := B.exec
  have hb := B.bytes
  have hr := B.returns
  have hts := atoms_spec (ws := wsL_told) B.pre
  have hown : s.vm.findClass RL = some m.cls := findClass_of_methodNamed B.named
  have hlocks := B.notSynchronized
  have htab : c.exceptionTable.toList = tableOf [(0, 10, 13, 19)] := vx_table (x := yL_told) B (hts _ List.mem_cons_self)
  have hl := lv_entry ([.ref (ad 0), .int (nI i), .int x, .ref (ad 12)]) (n := 5) (Nat.le_of_ble_eq_true rfl)
  rw [lg_entry_eq]
  generalize (lg_sl ([.ref (ad 0), .int (nI i), .int x, .ref (ad 12)]) ++ List.replicate (5 - (lg_sl ([.ref (ad 0), .int (nI i), .int x, .ref (ad 12)])).length) Slot.unset).toArray = ls at hl ⊢
  have hl : lv_has ls 5 [(0, .ref (ad 0)), (1, .int (nI i)), (2, .int x), (3, .ref (ad 12))] := hl
  refine lv_aload_n hx hb dL_told_0 rfl (lv_at hl 3 rfl) ?_
  refine lv_iconst (v := nI 0) hx hb dL_told_1 (by decide) ?_
  refine lv_aload_n hx hb dL_told_2 rfl (lv_at hl 0 rfl) ?_
  refine lv_iload_n hx hb dL_told_3 rfl (lv_at hl 1 rfl) ?_
  refine lv_iload_n hx hb dL_told_4 rfl (lv_at hl 2 rfl) ?_
  refine mx_caught (vx_runV (As := [.int (nI i), .int x]) (rest := [.int (nI 0), .ref (ad 12)]) ⟨hx, hb, hml, hown, hts⟩ (x_X2_told2 l hst G cy ad n k v o hn hk _ i h_i x hbad) (cwV 2 hts gL_told_X2_told rfl rfl rfl (by decide +kernel) ⟨Nat.le_of_ble_eq_true rfl, Nat.le_of_ble_eq_true rfl⟩) (mP_V (r := (RX2, TX2, 5)) hN hE S_0 rfl) rfl rfl hl.1 rfl (lv_room (Nat.le_of_ble_eq_true rfl)) dL_told_5 ⟨Nat.le_of_ble_eq_true rfl, Nat.le_of_ble_eq_true rfl⟩) hE (fun q9 ce H locs hq1 hq2 hq3 hE => ?_)
  refine vx_catch hown [] ⟨0, 10, 13, 19⟩ [] htab (fun z hz => absurd hz List.not_mem_nil) rfl (by decide) (hts (.classLink RL 19 "java/lang/IndexOutOfBoundsException") (by decide +kernel)) (va_Nw.use rfl (hN.2.1 (.castable "java/lang/IndexOutOfBoundsException" "java/lang/IndexOutOfBoundsException") (by decide +kernel))) hq1 hq2 hq3 ?_
  dsimp only
  refine lv_astore (lv' := [(4, .ref q9), (0, .ref (ad 0)), (1, .int (nI i)), (2, .int x), (3, .ref (ad 12))]) hx hb dL_told_13 hl (by decide) rfl (fun ls hl => ?_)
  refine lv_iconst (v := nI 1) hx hb dL_told_15 (by decide) ?_
  exact mx_iret hx hb hr hE hlocks ⟨rfl, rfl⟩ dL_told_16

set_option maxHeartbeats 4000000 in
set_option maxRecDepth 100000 in
/-- thing of the law -/
theorem c_L_thing (l : Launch) (G : va_G) (cy : Nat → ClassId) (ad : Nat → Nat) (n k : Nat) (v : Nat → Nat → Int32) (o : Nat → Int64) (hn : n ≤ 6) (hk : k ≤ 20) (sz : Nat) (i : Nat) (h_i : i < n) (d : Nat) (hd : d < 16) : mMi l yL_thing wsL_thing ({ frames := 9, cells := 0, slots := 0, locals := 180 }) G cy ad (Sy cy ad n k v o) sz [.ref (ad 0), .int (nI i), .int (nI d), .ref (ad 12)] 0 0 (fun (r : Int32) u => r = nI 0 ∧ u = (ad, Sy cy ad n k v (vp_updL o 0 (v (200 + i) d).toInt64))) := by
  refine va_MetW (cc := cL_thing) (maxL := 5) (ret := (some .int)) (hh := [(0, 10, 13, 19)]) (by decide) rfl ?_
  intro p e s m args below meth c s₁ B hml hv
  obtain ⟨rfl, hv⟩ := hv
  have hsz := hv.1
  subst hsz
  have hN := hv.2.2
  have hE := mP_E hv
  have hx := B.exec
  have hb := B.bytes
  have hr := B.returns
  have hts := atoms_spec (ws := wsL_thing) B.pre
  have hown : s.vm.findClass RL = some m.cls := findClass_of_methodNamed B.named
  have hlocks := B.notSynchronized
  have htab : c.exceptionTable.toList = tableOf [(0, 10, 13, 19)] := vx_table (x := yL_thing) B (hts _ List.mem_cons_self)
  have hl := lv_entry ([.ref (ad 0), .int (nI i), .int (nI d), .ref (ad 12)]) (n := 5) (Nat.le_of_ble_eq_true rfl)
  rw [lg_entry_eq]
  generalize (lg_sl ([.ref (ad 0), .int (nI i), .int (nI d), .ref (ad 12)]) ++ List.replicate (5 - (lg_sl ([.ref (ad 0), .int (nI i), .int (nI d), .ref (ad 12)])).length) Slot.unset).toArray = ls at hl ⊢
  have hl : lv_has ls 5 [(0, .ref (ad 0)), (1, .int (nI i)), (2, .int (nI d)), (3, .ref (ad 12))] := hl
  refine lv_aload_n hx hb dL_thing_0 rfl (lv_at hl 3 rfl) ?_
  refine lv_iconst (v := nI 0) hx hb dL_thing_1 (by decide) ?_
  refine lv_aload_n hx hb dL_thing_2 rfl (lv_at hl 0 rfl) ?_
  refine lv_iload_n hx hb dL_thing_3 rfl (lv_at hl 1 rfl) ?_
  refine lv_iload_n hx hb dL_thing_4 rfl (lv_at hl 2 rfl) ?_
  refine va_calli (va_runV (As := [.int (nI i), .int (nI d)]) (rest := [.int (nI 0), .ref (ad 12)]) ⟨hx, hb, hml, hown, hts⟩ (c_X2_thing l G cy ad n k v o hn hk _ i h_i d hd) (cwV 2 hts gL_thing_X2_thing rfl rfl rfl (by decide +kernel) ⟨Nat.le_of_ble_eq_true rfl, Nat.le_of_ble_eq_true rfl⟩) (mP_V (r := (RX2, TX2, 5)) hN hE S_0 rfl) rfl rfl hl.1 rfl (lv_room (Nat.le_of_ble_eq_true rfl)) dL_thing_5 ⟨Nat.le_of_ble_eq_true rfl, Nat.le_of_ble_eq_true rfl⟩) hE.2.2.2 (fun q _ h => mE_A hE q h) (mE_A hE) (fun r uq tq H locs ht hvm hw hB hz1 hk1 hS => ?_)
  obtain ⟨rfl, rfl⟩ := hw
  have hE : mE G (mA ad (Sy cy ad n k v o) s.heap.size) s.heap ad (Sy cy ad n k v o) H locs := mE_call hE hB ht hS
  refine lv_i2l hx hb dL_thing_8 rfl ?_
  refine mx_last hx hb hN hE S_12 (j := 0) rfl (by decide) (by decide) dL_thing_9 (fun H locs hE => ?_)
  rw [S_out] at hE
  refine lv_goto (tgt := 17) hx hb dL_thing_10 (by decide) ?_
  refine lv_iconst (v := nI 0) hx hb dL_thing_17 (by decide) ?_
  exact mx_iret hx hb hr hE hlocks ⟨rfl, rfl⟩ dL_thing_18

set_option maxHeartbeats 4000000 in
set_option maxRecDepth 100000 in
/-- thing of the law, refused -/
theorem x_L_thing1 (l : Launch) (hst : l.stackTraces = false) (G : va_G) (cy : Nat → ClassId) (ad : Nat → Nat) (n k : Nat) (v : Nat → Nat → Int32) (o : Nat → Int64) (hn : n ≤ 6) (hk : k ≤ 20) (sz : Nat) (x : Int32) (hbad : x < 0 ∨ nI n ≤ x) (y : Int32) : mMi l yL_thing wsL_thing ({ frames := 9, cells := 1, slots := 6, locals := 180 }) G cy ad (Sy cy ad n k v o) sz [.ref (ad 0), .int x, .int y, .ref (ad 12)] 1 6 (fun (r : Int32) u => r = nI 1 ∧ u = (ad, Sy cy ad n k v o)) := by
  refine va_MetW (cc := cL_thing) (maxL := 5) (ret := (some .int)) (hh := [(0, 10, 13, 19)]) (by decide) rfl ?_
  intro p e s m args below meth c s₁ B hml hv
  obtain ⟨rfl, hv⟩ := hv
  have hsz := hv.1
  subst hsz
  have hN := hv.2.2
  have hE := mP_E hv
  have hx := B.exec
  have hb := B.bytes
  have hr := B.returns
  have hts := atoms_spec (ws := wsL_thing) B.pre
  have hown : s.vm.findClass RL = some m.cls := findClass_of_methodNamed B.named
  have hlocks := B.notSynchronized
  have htab : c.exceptionTable.toList = tableOf [(0, 10, 13, 19)] := vx_table (x := yL_thing) B (hts _ List.mem_cons_self)
  have hl := lv_entry ([.ref (ad 0), .int x, .int y, .ref (ad 12)]) (n := 5) (Nat.le_of_ble_eq_true rfl)
  rw [lg_entry_eq]
  generalize (lg_sl ([.ref (ad 0), .int x, .int y, .ref (ad 12)]) ++ List.replicate (5 - (lg_sl ([.ref (ad 0), .int x, .int y, .ref (ad 12)])).length) Slot.unset).toArray = ls at hl ⊢
  have hl : lv_has ls 5 [(0, .ref (ad 0)), (1, .int x), (2, .int y), (3, .ref (ad 12))] := hl
  refine lv_aload_n hx hb dL_thing_0 rfl (lv_at hl 3 rfl) ?_
  refine lv_iconst (v := nI 0) hx hb dL_thing_1 (by decide) ?_
  refine lv_aload_n hx hb dL_thing_2 rfl (lv_at hl 0 rfl) ?_
  refine lv_iload_n hx hb dL_thing_3 rfl (lv_at hl 1 rfl) ?_
  refine lv_iload_n hx hb dL_thing_4 rfl (lv_at hl 2 rfl) ?_
  refine mx_caught (vx_runV (As := [.int x, .int y]) (rest := [.int (nI 0), .ref (ad 12)]) ⟨hx, hb, hml, hown, hts⟩ (x_X2_thing1 l hst G cy ad n k v o hn hk _ x hbad y) (cwV 2 hts gL_thing_X2_thing rfl rfl rfl (by decide +kernel) ⟨Nat.le_of_ble_eq_true rfl, Nat.le_of_ble_eq_true rfl⟩) (mP_V (r := (RX2, TX2, 5)) hN hE S_0 rfl) rfl rfl hl.1 rfl (lv_room (Nat.le_of_ble_eq_true rfl)) dL_thing_5 ⟨Nat.le_of_ble_eq_true rfl, Nat.le_of_ble_eq_true rfl⟩) hE (fun q9 ce H locs hq1 hq2 hq3 hE => ?_)
  refine vx_catch hown [] ⟨0, 10, 13, 19⟩ [] htab (fun z hz => absurd hz List.not_mem_nil) rfl (by decide) (hts (.classLink RL 19 "java/lang/IndexOutOfBoundsException") (by decide +kernel)) (va_Nw.use rfl (hN.2.1 (.castable "java/lang/IndexOutOfBoundsException" "java/lang/IndexOutOfBoundsException") (by decide +kernel))) hq1 hq2 hq3 ?_
  dsimp only
  refine lv_astore (lv' := [(4, .ref q9), (0, .ref (ad 0)), (1, .int x), (2, .int y), (3, .ref (ad 12))]) hx hb dL_thing_13 hl (by decide) rfl (fun ls hl => ?_)
  refine lv_iconst (v := nI 1) hx hb dL_thing_15 (by decide) ?_
  exact mx_iret hx hb hr hE hlocks ⟨rfl, rfl⟩ dL_thing_16

set_option maxHeartbeats 4000000 in
set_option maxRecDepth 100000 in
/-- thing of the law, refused -/
theorem x_L_thing2 (l : Launch) (hst : l.stackTraces = false) (G : va_G) (cy : Nat → ClassId) (ad : Nat → Nat) (n k : Nat) (v : Nat → Nat → Int32) (o : Nat → Int64) (hn : n ≤ 6) (hk : k ≤ 20) (sz : Nat) (i : Nat) (h_i : i < n) (x : Int32) (hbad : x < 0 ∨ nI 16 ≤ x) : mMi l yL_thing wsL_thing ({ frames := 9, cells := 1, slots := 6, locals := 180 }) G cy ad (Sy cy ad n k v o) sz [.ref (ad 0), .int (nI i), .int x, .ref (ad 12)] 1 6 (fun (r : Int32) u => r = nI 1 ∧ u = (ad, Sy cy ad n k v o)) := by
  refine va_MetW (cc := cL_thing) (maxL := 5) (ret := (some .int)) (hh := [(0, 10, 13, 19)]) (by decide) rfl ?_
  intro p e s m args below meth c s₁ B hml hv
  obtain ⟨rfl, hv⟩ := hv
  have hsz := hv.1
  subst hsz
  have hN := hv.2.2
  have hE := mP_E hv
  have hx := B.exec
  have hb := B.bytes
  have hr := B.returns
  have hts := atoms_spec (ws := wsL_thing) B.pre
  have hown : s.vm.findClass RL = some m.cls := findClass_of_methodNamed B.named
  have hlocks := B.notSynchronized
  have htab : c.exceptionTable.toList = tableOf [(0, 10, 13, 19)] := vx_table (x := yL_thing) B (hts _ List.mem_cons_self)
  have hl := lv_entry ([.ref (ad 0), .int (nI i), .int x, .ref (ad 12)]) (n := 5) (Nat.le_of_ble_eq_true rfl)
  rw [lg_entry_eq]
  generalize (lg_sl ([.ref (ad 0), .int (nI i), .int x, .ref (ad 12)]) ++ List.replicate (5 - (lg_sl ([.ref (ad 0), .int (nI i), .int x, .ref (ad 12)])).length) Slot.unset).toArray = ls at hl ⊢
  have hl : lv_has ls 5 [(0, .ref (ad 0)), (1, .int (nI i)), (2, .int x), (3, .ref (ad 12))] := hl
  refine lv_aload_n hx hb dL_thing_0 rfl (lv_at hl 3 rfl) ?_
  refine lv_iconst (v := nI 0) hx hb dL_thing_1 (by decide) ?_
  refine lv_aload_n hx hb dL_thing_2 rfl (lv_at hl 0 rfl) ?_
  refine lv_iload_n hx hb dL_thing_3 rfl (lv_at hl 1 rfl) ?_
  refine lv_iload_n hx hb dL_thing_4 rfl (lv_at hl 2 rfl) ?_
  refine mx_caught (vx_runV (As := [.int (nI i), .int x]) (rest := [.int (nI 0), .ref (ad 12)]) ⟨hx, hb, hml, hown, hts⟩ (x_X2_thing2 l hst G cy ad n k v o hn hk _ i h_i x hbad) (cwV 2 hts gL_thing_X2_thing rfl rfl rfl (by decide +kernel) ⟨Nat.le_of_ble_eq_true rfl, Nat.le_of_ble_eq_true rfl⟩) (mP_V (r := (RX2, TX2, 5)) hN hE S_0 rfl) rfl rfl hl.1 rfl (lv_room (Nat.le_of_ble_eq_true rfl)) dL_thing_5 ⟨Nat.le_of_ble_eq_true rfl, Nat.le_of_ble_eq_true rfl⟩) hE (fun q9 ce H locs hq1 hq2 hq3 hE => ?_)
  refine vx_catch hown [] ⟨0, 10, 13, 19⟩ [] htab (fun z hz => absurd hz List.not_mem_nil) rfl (by decide) (hts (.classLink RL 19 "java/lang/IndexOutOfBoundsException") (by decide +kernel)) (va_Nw.use rfl (hN.2.1 (.castable "java/lang/IndexOutOfBoundsException" "java/lang/IndexOutOfBoundsException") (by decide +kernel))) hq1 hq2 hq3 ?_
  dsimp only
  refine lv_astore (lv' := [(4, .ref q9), (0, .ref (ad 0)), (1, .int (nI i)), (2, .int x), (3, .ref (ad 12))]) hx hb dL_thing_13 hl (by decide) rfl (fun ls hl => ?_)
  refine lv_iconst (v := nI 1) hx hb dL_thing_15 (by decide) ?_
  exact mx_iret hx hb hr hE hlocks ⟨rfl, rfl⟩ dL_thing_16

set_option maxHeartbeats 4000000 in
set_option maxRecDepth 100000 in
/-- seal of the law -/
theorem c_L_seal (l : Launch) (G : va_G) (cy : Nat → ClassId) (ad : Nat → Nat) (n k : Nat) (v : Nat → Nat → Int32) (o : Nat → Int64) (hn : n ≤ 6) (hk : k ≤ 20) (sz : Nat) (i : Nat) (h_i : i < n) (hq : k < 20) : mMi l yL_seal wsL_seal ({ frames := 9, cells := 1, slots := 3, locals := 180 }) G cy ad (Sy cy ad n k v o) sz [.ref (ad 0), .int (nI i), .ref (ad 12)] 1 3 (fun (r : Int32) u => r = nI 0 ∧ ∃ (ad' : Nat → Nat), u = (ad', Sy cy ad' n (k + 1) (va_up v (400 + k) (mV3 (nI i) (v (300 + i) 1) (v (100 + i) 2))) (vp_updL o 0 (nI k).toInt64)) ∧ (∀ j, mIs n k j → ad' j = ad j)) := by
  refine va_MetW (cc := cL_seal) (maxL := 4) (ret := (some .int)) (hh := [(0, 9, 12, 19), (0, 9, 15, 13)]) (by decide) rfl ?_
  intro p e s m args below meth c s₁ B hml hv
  obtain ⟨rfl, hv⟩ := hv
  have hsz := hv.1
  subst hsz
  have hN := hv.2.2
  have hE := mP_E hv
  have hx := B.exec
  have hb := B.bytes
  have hr := B.returns
  have hts := atoms_spec (ws := wsL_seal) B.pre
  have hown : s.vm.findClass RL = some m.cls := findClass_of_methodNamed B.named
  have hlocks := B.notSynchronized
  have htab : c.exceptionTable.toList = tableOf [(0, 9, 12, 19), (0, 9, 15, 13)] := vx_table (x := yL_seal) B (hts _ List.mem_cons_self)
  have hl := lv_entry ([.ref (ad 0), .int (nI i), .ref (ad 12)]) (n := 4) (Nat.le_of_ble_eq_true rfl)
  rw [lg_entry_eq]
  generalize (lg_sl ([.ref (ad 0), .int (nI i), .ref (ad 12)]) ++ List.replicate (4 - (lg_sl ([.ref (ad 0), .int (nI i), .ref (ad 12)])).length) Slot.unset).toArray = ls at hl ⊢
  have hl : lv_has ls 4 [(0, .ref (ad 0)), (1, .int (nI i)), (2, .ref (ad 12))] := hl
  refine lv_aload_n hx hb dL_seal_0 rfl (lv_at hl 2 rfl) ?_
  refine lv_iconst (v := nI 0) hx hb dL_seal_1 (by decide) ?_
  refine lv_aload_n hx hb dL_seal_2 rfl (lv_at hl 0 rfl) ?_
  refine lv_iload_n hx hb dL_seal_3 rfl (lv_at hl 1 rfl) ?_
  refine va_calli (va_runV (As := [.int (nI i)]) (rest := [.int (nI 0), .ref (ad 12)]) ⟨hx, hb, hml, hown, hts⟩ (c_X2_seal l G cy ad n k v o hn hk _ i h_i hq) (cwV 1 hts gL_seal_X2_seal rfl rfl rfl (by decide +kernel) ⟨Nat.le_of_ble_eq_true rfl, Nat.le_of_ble_eq_true rfl⟩) (mP_V (r := (RX2, TX2, 5)) hN hE S_0 rfl) rfl rfl hl.1 rfl (lv_room (Nat.le_of_ble_eq_true rfl)) dL_seal_4 ⟨Nat.le_of_ble_eq_true rfl, Nat.le_of_ble_eq_true rfl⟩) hE.2.2.2 (fun q _ h => mE_A hE q h) (mE_A hE) (fun r uq tq H locs ht hvm hw hB hz1 hk1 hS => ?_)
  obtain ⟨rfl, ad9, rfl, hj9⟩ := hw
  have hE : mE G (mA ad (Sy cy ad n k v o) s.heap.size) s.heap ad9 (Sy cy ad9 n (k + 1) (va_up v (400 + k) (mV3 (nI i) (v (300 + i) 1) (v (100 + i) 2))) o) H locs := mE_call hE hB ht hS
  rw [← hj9 12 (Or.inl (by decide))]
  refine lv_i2l hx hb dL_seal_7 rfl ?_
  refine mx_last hx hb hN hE S_12 (j := 0) rfl (by decide) (by decide) dL_seal_8 (fun H locs hE => ?_)
  rw [S_out] at hE
  refine lv_goto (tgt := 18) hx hb dL_seal_9 (by decide) ?_
  refine lv_iconst (v := nI 0) hx hb dL_seal_18 (by decide) ?_
  exact mx_iret hx hb hr hE hlocks ⟨rfl, ad9, rfl, hj9⟩ dL_seal_19

set_option maxHeartbeats 4000000 in
set_option maxRecDepth 100000 in
/-- seal of the law, refused -/
theorem x_L_seal1 (l : Launch) (hst : l.stackTraces = false) (G : va_G) (cy : Nat → ClassId) (ad : Nat → Nat) (n k : Nat) (v : Nat → Nat → Int32) (o : Nat → Int64) (hn : n ≤ 6) (hk : k ≤ 20) (sz : Nat) (x : Int32) (hbad : x < 0 ∨ nI n ≤ x) : mMi l yL_seal wsL_seal ({ frames := 9, cells := 1, slots := 6, locals := 180 }) G cy ad (Sy cy ad n k v o) sz [.ref (ad 0), .int x, .ref (ad 12)] 1 6 (fun (r : Int32) u => r = nI 1 ∧ u = (ad, Sy cy ad n k v o)) := by
  refine va_MetW (cc := cL_seal) (maxL := 4) (ret := (some .int)) (hh := [(0, 9, 12, 19), (0, 9, 15, 13)]) (by decide) rfl ?_
  intro p e s m args below meth c s₁ B hml hv
  obtain ⟨rfl, hv⟩ := hv
  have hsz := hv.1
  subst hsz
  have hN := hv.2.2
  have hE := mP_E hv
  have hx := B.exec
  have hb := B.bytes
  have hr := B.returns
  have hts := atoms_spec (ws := wsL_seal) B.pre
  have hown : s.vm.findClass RL = some m.cls := findClass_of_methodNamed B.named
  have hlocks := B.notSynchronized
  have htab : c.exceptionTable.toList = tableOf [(0, 9, 12, 19), (0, 9, 15, 13)] := vx_table (x := yL_seal) B (hts _ List.mem_cons_self)
  have hl := lv_entry ([.ref (ad 0), .int x, .ref (ad 12)]) (n := 4) (Nat.le_of_ble_eq_true rfl)
  rw [lg_entry_eq]
  generalize (lg_sl ([.ref (ad 0), .int x, .ref (ad 12)]) ++ List.replicate (4 - (lg_sl ([.ref (ad 0), .int x, .ref (ad 12)])).length) Slot.unset).toArray = ls at hl ⊢
  have hl : lv_has ls 4 [(0, .ref (ad 0)), (1, .int x), (2, .ref (ad 12))] := hl
  refine lv_aload_n hx hb dL_seal_0 rfl (lv_at hl 2 rfl) ?_
  refine lv_iconst (v := nI 0) hx hb dL_seal_1 (by decide) ?_
  refine lv_aload_n hx hb dL_seal_2 rfl (lv_at hl 0 rfl) ?_
  refine lv_iload_n hx hb dL_seal_3 rfl (lv_at hl 1 rfl) ?_
  refine mx_caught (vx_runV (As := [.int x]) (rest := [.int (nI 0), .ref (ad 12)]) ⟨hx, hb, hml, hown, hts⟩ (x_X2_seal1 l hst G cy ad n k v o hn hk _ x hbad) (cwV 1 hts gL_seal_X2_seal rfl rfl rfl (by decide +kernel) ⟨Nat.le_of_ble_eq_true rfl, Nat.le_of_ble_eq_true rfl⟩) (mP_V (r := (RX2, TX2, 5)) hN hE S_0 rfl) rfl rfl hl.1 rfl (lv_room (Nat.le_of_ble_eq_true rfl)) dL_seal_4 ⟨Nat.le_of_ble_eq_true rfl, Nat.le_of_ble_eq_true rfl⟩) hE (fun q9 ce H locs hq1 hq2 hq3 hE => ?_)
  refine vx_catch hown [] ⟨0, 9, 12, 19⟩ [⟨0, 9, 15, 13⟩] htab (fun z hz => absurd hz List.not_mem_nil) rfl (by decide) (hts (.classLink RL 19 "java/lang/IndexOutOfBoundsException") (by decide +kernel)) (va_Nw.use rfl (hN.2.1 (.castable "java/lang/IndexOutOfBoundsException" "java/lang/IndexOutOfBoundsException") (by decide +kernel))) hq1 hq2 hq3 ?_
  dsimp only
  refine lv_astore_n (lv' := [(3, .ref q9), (0, .ref (ad 0)), (1, .int x), (2, .ref (ad 12))]) hx hb dL_seal_12 rfl hl (by decide) rfl (fun ls hl => ?_)
  refine lv_iconst (v := nI 1) hx hb dL_seal_13 (by decide) ?_
  exact mx_iret hx hb hr hE hlocks ⟨rfl, rfl⟩ dL_seal_14

set_option maxHeartbeats 4000000 in
set_option maxRecDepth 100000 in
/-- seal of the law, refused -/
theorem x_L_seal2 (l : Launch) (hst : l.stackTraces = false) (G : va_G) (cy : Nat → ClassId) (ad : Nat → Nat) (n k : Nat) (v : Nat → Nat → Int32) (o : Nat → Int64) (hn : n ≤ 6) (hk : k ≤ 20) (sz : Nat) (i : Nat) (h_i : i < n) (hq : k = 20) : mMi l yL_seal wsL_seal ({ frames := 9, cells := 1, slots := 6, locals := 180 }) G cy ad (Sy cy ad n k v o) sz [.ref (ad 0), .int (nI i), .ref (ad 12)] 1 6 (fun (r : Int32) u => r = nI 2 ∧ u = (ad, Sy cy ad n k v o)) := by
  refine va_MetW (cc := cL_seal) (maxL := 4) (ret := (some .int)) (hh := [(0, 9, 12, 19), (0, 9, 15, 13)]) (by decide) rfl ?_
  intro p e s m args below meth c s₁ B hml hv
  obtain ⟨rfl, hv⟩ := hv
  have hsz := hv.1
  subst hsz
  have hN := hv.2.2
  have hE := mP_E hv
  have hx := B.exec
  have hb := B.bytes
  have hr := B.returns
  have hts := atoms_spec (ws := wsL_seal) B.pre
  have hown : s.vm.findClass RL = some m.cls := findClass_of_methodNamed B.named
  have hlocks := B.notSynchronized
  have htab : c.exceptionTable.toList = tableOf [(0, 9, 12, 19), (0, 9, 15, 13)] := vx_table (x := yL_seal) B (hts _ List.mem_cons_self)
  have hl := lv_entry ([.ref (ad 0), .int (nI i), .ref (ad 12)]) (n := 4) (Nat.le_of_ble_eq_true rfl)
  rw [lg_entry_eq]
  generalize (lg_sl ([.ref (ad 0), .int (nI i), .ref (ad 12)]) ++ List.replicate (4 - (lg_sl ([.ref (ad 0), .int (nI i), .ref (ad 12)])).length) Slot.unset).toArray = ls at hl ⊢
  have hl : lv_has ls 4 [(0, .ref (ad 0)), (1, .int (nI i)), (2, .ref (ad 12))] := hl
  refine lv_aload_n hx hb dL_seal_0 rfl (lv_at hl 2 rfl) ?_
  refine lv_iconst (v := nI 0) hx hb dL_seal_1 (by decide) ?_
  refine lv_aload_n hx hb dL_seal_2 rfl (lv_at hl 0 rfl) ?_
  refine lv_iload_n hx hb dL_seal_3 rfl (lv_at hl 1 rfl) ?_
  refine mx_caught (vx_runV (As := [.int (nI i)]) (rest := [.int (nI 0), .ref (ad 12)]) ⟨hx, hb, hml, hown, hts⟩ (x_X2_seal2 l hst G cy ad n k v o hn hk _ i h_i hq) (cwV 1 hts gL_seal_X2_seal rfl rfl rfl (by decide +kernel) ⟨Nat.le_of_ble_eq_true rfl, Nat.le_of_ble_eq_true rfl⟩) (mP_V (r := (RX2, TX2, 5)) hN hE S_0 rfl) rfl rfl hl.1 rfl (lv_room (Nat.le_of_ble_eq_true rfl)) dL_seal_4 ⟨Nat.le_of_ble_eq_true rfl, Nat.le_of_ble_eq_true rfl⟩) hE (fun q9 ce H locs hq1 hq2 hq3 hE => ?_)
  refine vx_catch hown [⟨0, 9, 12, 19⟩] ⟨0, 9, 15, 13⟩ [] htab (fun z hz => by rw [List.mem_singleton] at hz; subst hz; exact Or.inr ⟨by decide, "java/lang/IndexOutOfBoundsException", (hts (.classLink RL 19 "java/lang/IndexOutOfBoundsException") (by decide +kernel)), hN.2.2.2.2.2.2 ("java/lang/IllegalStateException", "java/lang/IndexOutOfBoundsException") (by decide +kernel)⟩) rfl (by decide) (hts (.classLink RL 13 "java/lang/IllegalStateException") (by decide +kernel)) (va_Nw.use rfl (hN.2.1 (.castable "java/lang/IllegalStateException" "java/lang/IllegalStateException") (by decide +kernel))) hq1 hq2 hq3 ?_
  dsimp only
  refine lv_astore_n (lv' := [(3, .ref q9), (0, .ref (ad 0)), (1, .int (nI i)), (2, .ref (ad 12))]) hx hb dL_seal_15 rfl hl (by decide) rfl (fun ls hl => ?_)
  refine lv_iconst (v := nI 2) hx hb dL_seal_16 (by decide) ?_
  exact mx_iret hx hb hr hE hlocks ⟨rfl, rfl⟩ dL_seal_17

set_option maxHeartbeats 4000000 in
set_option maxRecDepth 100000 in
/-- about of the law -/
theorem c_L_about (l : Launch) (G : va_G) (cy : Nat → ClassId) (ad : Nat → Nat) (n k : Nat) (v : Nat → Nat → Int32) (o : Nat → Int64) (hn : n ≤ 6) (hk : k ≤ 20) (sz : Nat) (j : Nat) (h_j : j < k) (t9 : Nat) (ht9 : t9 < 4) (cu : Nat) (h_cu : cu < n) (hsc : v (400 + j) 0 = nI cu) : mMi l yL_about wsL_about ({ frames := 9, cells := 0, slots := 0, locals := 180 }) G cy ad (Sy cy ad n k v o) sz [.ref (ad 0), .int (nI j), .int (nI t9), .ref (ad 12)] 0 0 (fun (r : Int32) u => r = nI 0 ∧ u = (ad, Sy cy ad n k v (vp_updL o 0 (mAbout v j cu t9).toInt64))) := by
  refine va_MetW (cc := cL_about) (maxL := 5) (ret := (some .int)) (hh := [(0, 10, 13, 19)]) (by decide) rfl ?_
  intro p e s m args below meth c s₁ B hml hv
  obtain ⟨rfl, hv⟩ := hv
  have hsz := hv.1
  subst hsz
  have hN := hv.2.2
  have hE := mP_E hv
  have hx := B.exec
  have hb := B.bytes
  have hr := B.returns
  have hts := atoms_spec (ws := wsL_about) B.pre
  have hown : s.vm.findClass RL = some m.cls := findClass_of_methodNamed B.named
  have hlocks := B.notSynchronized
  have htab : c.exceptionTable.toList = tableOf [(0, 10, 13, 19)] := vx_table (x := yL_about) B (hts _ List.mem_cons_self)
  have hl := lv_entry ([.ref (ad 0), .int (nI j), .int (nI t9), .ref (ad 12)]) (n := 5) (Nat.le_of_ble_eq_true rfl)
  rw [lg_entry_eq]
  generalize (lg_sl ([.ref (ad 0), .int (nI j), .int (nI t9), .ref (ad 12)]) ++ List.replicate (5 - (lg_sl ([.ref (ad 0), .int (nI j), .int (nI t9), .ref (ad 12)])).length) Slot.unset).toArray = ls at hl ⊢
  have hl : lv_has ls 5 [(0, .ref (ad 0)), (1, .int (nI j)), (2, .int (nI t9)), (3, .ref (ad 12))] := hl
  refine lv_aload_n hx hb dL_about_0 rfl (lv_at hl 3 rfl) ?_
  refine lv_iconst (v := nI 0) hx hb dL_about_1 (by decide) ?_
  refine lv_aload_n hx hb dL_about_2 rfl (lv_at hl 0 rfl) ?_
  refine lv_iload_n hx hb dL_about_3 rfl (lv_at hl 1 rfl) ?_
  refine lv_iload_n hx hb dL_about_4 rfl (lv_at hl 2 rfl) ?_
  refine va_calli (va_runV (As := [.int (nI j), .int (nI t9)]) (rest := [.int (nI 0), .ref (ad 12)]) ⟨hx, hb, hml, hown, hts⟩ (c_X2_about l G cy ad n k v o hn hk _ j h_j t9 ht9 cu h_cu hsc) (cwV 2 hts gL_about_X2_about rfl rfl rfl (by decide +kernel) ⟨Nat.le_of_ble_eq_true rfl, Nat.le_of_ble_eq_true rfl⟩) (mP_V (r := (RX2, TX2, 5)) hN hE S_0 rfl) rfl rfl hl.1 rfl (lv_room (Nat.le_of_ble_eq_true rfl)) dL_about_5 ⟨Nat.le_of_ble_eq_true rfl, Nat.le_of_ble_eq_true rfl⟩) hE.2.2.2 (fun q _ h => mE_A hE q h) (mE_A hE) (fun r uq tq H locs ht hvm hw hB hz1 hk1 hS => ?_)
  obtain ⟨rfl, rfl⟩ := hw
  have hE : mE G (mA ad (Sy cy ad n k v o) s.heap.size) s.heap ad (Sy cy ad n k v o) H locs := mE_call hE hB ht hS
  refine lv_i2l hx hb dL_about_8 rfl ?_
  refine mx_last hx hb hN hE S_12 (j := 0) rfl (by decide) (by decide) dL_about_9 (fun H locs hE => ?_)
  rw [S_out] at hE
  refine lv_goto (tgt := 17) hx hb dL_about_10 (by decide) ?_
  refine lv_iconst (v := nI 0) hx hb dL_about_17 (by decide) ?_
  exact mx_iret hx hb hr hE hlocks ⟨rfl, rfl⟩ dL_about_18

set_option maxHeartbeats 4000000 in
set_option maxRecDepth 100000 in
/-- about of the law, refused -/
theorem x_L_about1 (l : Launch) (hst : l.stackTraces = false) (G : va_G) (cy : Nat → ClassId) (ad : Nat → Nat) (n k : Nat) (v : Nat → Nat → Int32) (o : Nat → Int64) (hn : n ≤ 6) (hk : k ≤ 20) (sz : Nat) (x : Int32) (hbad : x < 0 ∨ nI k ≤ x) (y : Int32) : mMi l yL_about wsL_about ({ frames := 9, cells := 1, slots := 6, locals := 180 }) G cy ad (Sy cy ad n k v o) sz [.ref (ad 0), .int x, .int y, .ref (ad 12)] 1 6 (fun (r : Int32) u => r = nI 1 ∧ u = (ad, Sy cy ad n k v o)) := by
  refine va_MetW (cc := cL_about) (maxL := 5) (ret := (some .int)) (hh := [(0, 10, 13, 19)]) (by decide) rfl ?_
  intro p e s m args below meth c s₁ B hml hv
  obtain ⟨rfl, hv⟩ := hv
  have hsz := hv.1
  subst hsz
  have hN := hv.2.2
  have hE := mP_E hv
  have hx := B.exec
  have hb := B.bytes
  have hr := B.returns
  have hts := atoms_spec (ws := wsL_about) B.pre
  have hown : s.vm.findClass RL = some m.cls := findClass_of_methodNamed B.named
  have hlocks := B.notSynchronized
  have htab : c.exceptionTable.toList = tableOf [(0, 10, 13, 19)] := vx_table (x := yL_about) B (hts _ List.mem_cons_self)
  have hl := lv_entry ([.ref (ad 0), .int x, .int y, .ref (ad 12)]) (n := 5) (Nat.le_of_ble_eq_true rfl)
  rw [lg_entry_eq]
  generalize (lg_sl ([.ref (ad 0), .int x, .int y, .ref (ad 12)]) ++ List.replicate (5 - (lg_sl ([.ref (ad 0), .int x, .int y, .ref (ad 12)])).length) Slot.unset).toArray = ls at hl ⊢
  have hl : lv_has ls 5 [(0, .ref (ad 0)), (1, .int x), (2, .int y), (3, .ref (ad 12))] := hl
  refine lv_aload_n hx hb dL_about_0 rfl (lv_at hl 3 rfl) ?_
  refine lv_iconst (v := nI 0) hx hb dL_about_1 (by decide) ?_
  refine lv_aload_n hx hb dL_about_2 rfl (lv_at hl 0 rfl) ?_
  refine lv_iload_n hx hb dL_about_3 rfl (lv_at hl 1 rfl) ?_
  refine lv_iload_n hx hb dL_about_4 rfl (lv_at hl 2 rfl) ?_
  refine mx_caught (vx_runV (As := [.int x, .int y]) (rest := [.int (nI 0), .ref (ad 12)]) ⟨hx, hb, hml, hown, hts⟩ (x_X2_about1 l hst G cy ad n k v o hn hk _ x hbad y) (cwV 2 hts gL_about_X2_about rfl rfl rfl (by decide +kernel) ⟨Nat.le_of_ble_eq_true rfl, Nat.le_of_ble_eq_true rfl⟩) (mP_V (r := (RX2, TX2, 5)) hN hE S_0 rfl) rfl rfl hl.1 rfl (lv_room (Nat.le_of_ble_eq_true rfl)) dL_about_5 ⟨Nat.le_of_ble_eq_true rfl, Nat.le_of_ble_eq_true rfl⟩) hE (fun q9 ce H locs hq1 hq2 hq3 hE => ?_)
  refine vx_catch hown [] ⟨0, 10, 13, 19⟩ [] htab (fun z hz => absurd hz List.not_mem_nil) rfl (by decide) (hts (.classLink RL 19 "java/lang/IndexOutOfBoundsException") (by decide +kernel)) (va_Nw.use rfl (hN.2.1 (.castable "java/lang/IndexOutOfBoundsException" "java/lang/IndexOutOfBoundsException") (by decide +kernel))) hq1 hq2 hq3 ?_
  dsimp only
  refine lv_astore (lv' := [(4, .ref q9), (0, .ref (ad 0)), (1, .int x), (2, .int y), (3, .ref (ad 12))]) hx hb dL_about_13 hl (by decide) rfl (fun ls hl => ?_)
  refine lv_iconst (v := nI 1) hx hb dL_about_15 (by decide) ?_
  exact mx_iret hx hb hr hE hlocks ⟨rfl, rfl⟩ dL_about_16

set_option maxHeartbeats 4000000 in
set_option maxRecDepth 100000 in
/-- about of the law, refused -/
theorem x_L_about2 (l : Launch) (hst : l.stackTraces = false) (G : va_G) (cy : Nat → ClassId) (ad : Nat → Nat) (n k : Nat) (v : Nat → Nat → Int32) (o : Nat → Int64) (hn : n ≤ 6) (hk : k ≤ 20) (sz : Nat) (j : Nat) (h_j : j < k) (x : Int32) (hbad : x < 0 ∨ nI 4 ≤ x) : mMi l yL_about wsL_about ({ frames := 9, cells := 1, slots := 6, locals := 180 }) G cy ad (Sy cy ad n k v o) sz [.ref (ad 0), .int (nI j), .int x, .ref (ad 12)] 1 6 (fun (r : Int32) u => r = nI 1 ∧ u = (ad, Sy cy ad n k v o)) := by
  refine va_MetW (cc := cL_about) (maxL := 5) (ret := (some .int)) (hh := [(0, 10, 13, 19)]) (by decide) rfl ?_
  intro p e s m args below meth c s₁ B hml hv
  obtain ⟨rfl, hv⟩ := hv
  have hsz := hv.1
  subst hsz
  have hN := hv.2.2
  have hE := mP_E hv
  have hx := B.exec
  have hb := B.bytes
  have hr := B.returns
  have hts := atoms_spec (ws := wsL_about) B.pre
  have hown : s.vm.findClass RL = some m.cls := findClass_of_methodNamed B.named
  have hlocks := B.notSynchronized
  have htab : c.exceptionTable.toList = tableOf [(0, 10, 13, 19)] := vx_table (x := yL_about) B (hts _ List.mem_cons_self)
  have hl := lv_entry ([.ref (ad 0), .int (nI j), .int x, .ref (ad 12)]) (n := 5) (Nat.le_of_ble_eq_true rfl)
  rw [lg_entry_eq]
  generalize (lg_sl ([.ref (ad 0), .int (nI j), .int x, .ref (ad 12)]) ++ List.replicate (5 - (lg_sl ([.ref (ad 0), .int (nI j), .int x, .ref (ad 12)])).length) Slot.unset).toArray = ls at hl ⊢
  have hl : lv_has ls 5 [(0, .ref (ad 0)), (1, .int (nI j)), (2, .int x), (3, .ref (ad 12))] := hl
  refine lv_aload_n hx hb dL_about_0 rfl (lv_at hl 3 rfl) ?_
  refine lv_iconst (v := nI 0) hx hb dL_about_1 (by decide) ?_
  refine lv_aload_n hx hb dL_about_2 rfl (lv_at hl 0 rfl) ?_
  refine lv_iload_n hx hb dL_about_3 rfl (lv_at hl 1 rfl) ?_
  refine lv_iload_n hx hb dL_about_4 rfl (lv_at hl 2 rfl) ?_
  refine mx_caught (vx_runV (As := [.int (nI j), .int x]) (rest := [.int (nI 0), .ref (ad 12)]) ⟨hx, hb, hml, hown, hts⟩ (x_X2_about2 l hst G cy ad n k v o hn hk _ j h_j x hbad) (cwV 2 hts gL_about_X2_about rfl rfl rfl (by decide +kernel) ⟨Nat.le_of_ble_eq_true rfl, Nat.le_of_ble_eq_true rfl⟩) (mP_V (r := (RX2, TX2, 5)) hN hE S_0 rfl) rfl rfl hl.1 rfl (lv_room (Nat.le_of_ble_eq_true rfl)) dL_about_5 ⟨Nat.le_of_ble_eq_true rfl, Nat.le_of_ble_eq_true rfl⟩) hE (fun q9 ce H locs hq1 hq2 hq3 hE => ?_)
  refine vx_catch hown [] ⟨0, 10, 13, 19⟩ [] htab (fun z hz => absurd hz List.not_mem_nil) rfl (by decide) (hts (.classLink RL 19 "java/lang/IndexOutOfBoundsException") (by decide +kernel)) (va_Nw.use rfl (hN.2.1 (.castable "java/lang/IndexOutOfBoundsException" "java/lang/IndexOutOfBoundsException") (by decide +kernel))) hq1 hq2 hq3 ?_
  dsimp only
  refine lv_astore (lv' := [(4, .ref q9), (0, .ref (ad 0)), (1, .int (nI j)), (2, .int x), (3, .ref (ad 12))]) hx hb dL_about_13 hl (by decide) rfl (fun ls hl => ?_)
  refine lv_iconst (v := nI 1) hx hb dL_about_15 (by decide) ?_
  exact mx_iret hx hb hr hE hlocks ⟨rfl, rfl⟩ dL_about_16

set_option maxHeartbeats 4000000 in
set_option maxRecDepth 100000 in
/-- proof of the law -/
theorem c_L_proof (l : Launch) (G : va_G) (cy : Nat → ClassId) (ad : Nat → Nat) (n k : Nat) (v : Nat → Nat → Int32) (o : Nat → Int64) (hn : n ≤ 6) (hk : k ≤ 20) (sz : Nat) (i : Nat) (h_i : i < n) (d t9 : Nat) (hd : d < 16) (ht9 : t9 < 4) : mMi l yL_proof wsL_proof ({ frames := 9, cells := 0, slots := 0, locals := 180 }) G cy ad (Sy cy ad n k v o) sz [.ref (ad 0), .int (nI i), .int (nI d), .int (nI t9), .ref (ad 12)] 0 0 (fun (r : Int32) u => r = nI 0 ∧ u = (ad, Sy cy ad n k v (vp_updL o 0 (v (300 + i) (mBes d t9)).toInt64))) := by
  refine va_MetW (cc := cL_proof) (maxL := 6) (ret := (some .int)) (hh := [(0, 12, 15, 19)]) (by decide) rfl ?_
  intro p e s m args below meth c s₁ B hml hv
  obtain ⟨rfl, hv⟩ := hv
  have hsz := hv.1
  subst hsz
  have hN := hv.2.2
  have hE := mP_E hv
  have hx := B.exec
  have hb := B.bytes
  have hr := B.returns
  have hts := atoms_spec (ws := wsL_proof) B.pre
  have hown : s.vm.findClass RL = some m.cls := findClass_of_methodNamed B.named
  have hlocks := B.notSynchronized
  have htab : c.exceptionTable.toList = tableOf [(0, 12, 15, 19)] := vx_table (x := yL_proof) B (hts _ List.mem_cons_self)
  have hl := lv_entry ([.ref (ad 0), .int (nI i), .int (nI d), .int (nI t9), .ref (ad 12)]) (n := 6) (Nat.le_of_ble_eq_true rfl)
  rw [lg_entry_eq]
  generalize (lg_sl ([.ref (ad 0), .int (nI i), .int (nI d), .int (nI t9), .ref (ad 12)]) ++ List.replicate (6 - (lg_sl ([.ref (ad 0), .int (nI i), .int (nI d), .int (nI t9), .ref (ad 12)])).length) Slot.unset).toArray = ls at hl ⊢
  have hl : lv_has ls 6 [(0, .ref (ad 0)), (1, .int (nI i)), (2, .int (nI d)), (3, .int (nI t9)), (4, .ref (ad 12))] := hl
  refine lv_aload hx hb dL_proof_0 (lv_at hl 4 rfl) ?_
  refine lv_iconst (v := nI 0) hx hb dL_proof_2 (by decide) ?_
  refine lv_aload_n hx hb dL_proof_3 rfl (lv_at hl 0 rfl) ?_
  refine lv_iload_n hx hb dL_proof_4 rfl (lv_at hl 1 rfl) ?_
  refine lv_iload_n hx hb dL_proof_5 rfl (lv_at hl 2 rfl) ?_
  refine lv_iload_n hx hb dL_proof_6 rfl (lv_at hl 3 rfl) ?_
  refine va_calli (va_runV (As := [.int (nI i), .int (nI d), .int (nI t9)]) (rest := [.int (nI 0), .ref (ad 12)]) ⟨hx, hb, hml, hown, hts⟩ (c_X2_proof l G cy ad n k v o hn hk _ i h_i d t9 hd ht9) (cwV 3 hts gL_proof_X2_proof rfl rfl rfl (by decide +kernel) ⟨Nat.le_of_ble_eq_true rfl, Nat.le_of_ble_eq_true rfl⟩) (mP_V (r := (RX2, TX2, 5)) hN hE S_0 rfl) rfl rfl hl.1 rfl (lv_room (Nat.le_of_ble_eq_true rfl)) dL_proof_7 ⟨Nat.le_of_ble_eq_true rfl, Nat.le_of_ble_eq_true rfl⟩) hE.2.2.2 (fun q _ h => mE_A hE q h) (mE_A hE) (fun r uq tq H locs ht hvm hw hB hz1 hk1 hS => ?_)
  obtain ⟨rfl, rfl⟩ := hw
  have hE : mE G (mA ad (Sy cy ad n k v o) s.heap.size) s.heap ad (Sy cy ad n k v o) H locs := mE_call hE hB ht hS
  refine lv_i2l hx hb dL_proof_10 rfl ?_
  refine mx_last hx hb hN hE S_12 (j := 0) rfl (by decide) (by decide) dL_proof_11 (fun H locs hE => ?_)
  rw [S_out] at hE
  refine lv_goto (tgt := 19) hx hb dL_proof_12 (by decide) ?_
  refine lv_iconst (v := nI 0) hx hb dL_proof_19 (by decide) ?_
  exact mx_iret hx hb hr hE hlocks ⟨rfl, rfl⟩ dL_proof_20

set_option maxHeartbeats 4000000 in
set_option maxRecDepth 100000 in
/-- proof of the law, refused -/
theorem x_L_proof1 (l : Launch) (hst : l.stackTraces = false) (G : va_G) (cy : Nat → ClassId) (ad : Nat → Nat) (n k : Nat) (v : Nat → Nat → Int32) (o : Nat → Int64) (hn : n ≤ 6) (hk : k ≤ 20) (sz : Nat) (x : Int32) (hbad : x < 0 ∨ nI n ≤ x) (y z : Int32) : mMi l yL_proof wsL_proof ({ frames := 9, cells := 1, slots := 6, locals := 180 }) G cy ad (Sy cy ad n k v o) sz [.ref (ad 0), .int x, .int y, .int z, .ref (ad 12)] 1 6 (fun (r : Int32) u => r = nI 1 ∧ u = (ad, Sy cy ad n k v o)) := by
  refine va_MetW (cc := cL_proof) (maxL := 6) (ret := (some .int)) (hh := [(0, 12, 15, 19)]) (by decide) rfl ?_
  intro p e s m args below meth c s₁ B hml hv
  obtain ⟨rfl, hv⟩ := hv
  have hsz := hv.1
  subst hsz
  have hN := hv.2.2
  have hE := mP_E hv
  have hx := B.exec
  have hb := B.bytes
  have hr := B.returns
  have hts := atoms_spec (ws := wsL_proof) B.pre
  have hown : s.vm.findClass RL = some m.cls := findClass_of_methodNamed B.named
  have hlocks := B.notSynchronized
  have htab : c.exceptionTable.toList = tableOf [(0, 12, 15, 19)] := vx_table (x := yL_proof) B (hts _ List.mem_cons_self)
  have hl := lv_entry ([.ref (ad 0), .int x, .int y, .int z, .ref (ad 12)]) (n := 6) (Nat.le_of_ble_eq_true rfl)
  rw [lg_entry_eq]
  generalize (lg_sl ([.ref (ad 0), .int x, .int y, .int z, .ref (ad 12)]) ++ List.replicate (6 - (lg_sl ([.ref (ad 0), .int x, .int y, .int z, .ref (ad 12)])).length) Slot.unset).toArray = ls at hl ⊢
  have hl : lv_has ls 6 [(0, .ref (ad 0)), (1, .int x), (2, .int y), (3, .int z), (4, .ref (ad 12))] := hl
  refine lv_aload hx hb dL_proof_0 (lv_at hl 4 rfl) ?_
  refine lv_iconst (v := nI 0) hx hb dL_proof_2 (by decide) ?_
  refine lv_aload_n hx hb dL_proof_3 rfl (lv_at hl 0 rfl) ?_
  refine lv_iload_n hx hb dL_proof_4 rfl (lv_at hl 1 rfl) ?_
  refine lv_iload_n hx hb dL_proof_5 rfl (lv_at hl 2 rfl) ?_
  refine lv_iload_n hx hb dL_proof_6 rfl (lv_at hl 3 rfl) ?_
  refine mx_caught (vx_runV (As := [.int x, .int y, .int z]) (rest := [.int (nI 0), .ref (ad 12)]) ⟨hx, hb, hml, hown, hts⟩ (x_X2_proof1 l hst G cy ad n k v o hn hk _ x hbad y z) (cwV 3 hts gL_proof_X2_proof rfl rfl rfl (by decide +kernel) ⟨Nat.le_of_ble_eq_true rfl, Nat.le_of_ble_eq_true rfl⟩) (mP_V (r := (RX2, TX2, 5)) hN hE S_0 rfl) rfl rfl hl.1 rfl (lv_room (Nat.le_of_ble_eq_true rfl)) dL_proof_7 ⟨Nat.le_of_ble_eq_true rfl, Nat.le_of_ble_eq_true rfl⟩) hE (fun q9 ce H locs hq1 hq2 hq3 hE => ?_)
  refine vx_catch hown [] ⟨0, 12, 15, 19⟩ [] htab (fun z hz => absurd hz List.not_mem_nil) rfl (by decide) (hts (.classLink RL 19 "java/lang/IndexOutOfBoundsException") (by decide +kernel)) (va_Nw.use rfl (hN.2.1 (.castable "java/lang/IndexOutOfBoundsException" "java/lang/IndexOutOfBoundsException") (by decide +kernel))) hq1 hq2 hq3 ?_
  dsimp only
  refine lv_astore (lv' := [(5, .ref q9), (0, .ref (ad 0)), (1, .int x), (2, .int y), (3, .int z), (4, .ref (ad 12))]) hx hb dL_proof_15 hl (by decide) rfl (fun ls hl => ?_)
  refine lv_iconst (v := nI 1) hx hb dL_proof_17 (by decide) ?_
  exact mx_iret hx hb hr hE hlocks ⟨rfl, rfl⟩ dL_proof_18

set_option maxHeartbeats 4000000 in
set_option maxRecDepth 100000 in
/-- proof of the law, refused -/
theorem x_L_proof2 (l : Launch) (hst : l.stackTraces = false) (G : va_G) (cy : Nat → ClassId) (ad : Nat → Nat) (n k : Nat) (v : Nat → Nat → Int32) (o : Nat → Int64) (hn : n ≤ 6) (hk : k ≤ 20) (sz : Nat) (i : Nat) (h_i : i < n) (x : Int32) (hbad : x < 0 ∨ nI 16 ≤ x) (z : Int32) : mMi l yL_proof wsL_proof ({ frames := 9, cells := 1, slots := 6, locals := 180 }) G cy ad (Sy cy ad n k v o) sz [.ref (ad 0), .int (nI i), .int x, .int z, .ref (ad 12)] 1 6 (fun (r : Int32) u => r = nI 1 ∧ u = (ad, Sy cy ad n k v o)) := by
  refine va_MetW (cc := cL_proof) (maxL := 6) (ret := (some .int)) (hh := [(0, 12, 15, 19)]) (by decide) rfl ?_
  intro p e s m args below meth c s₁ B hml hv
  obtain ⟨rfl, hv⟩ := hv
  have hsz := hv.1
  subst hsz
  have hN := hv.2.2
  have hE := mP_E hv
  have hx := B.exec
  have hb := B.bytes
  have hr := B.returns
  have hts := atoms_spec (ws := wsL_proof) B.pre
  have hown : s.vm.findClass RL = some m.cls := findClass_of_methodNamed B.named
  have hlocks := B.notSynchronized
  have htab : c.exceptionTable.toList = tableOf [(0, 12, 15, 19)] := vx_table (x := yL_proof) B (hts _ List.mem_cons_self)
  have hl := lv_entry ([.ref (ad 0), .int (nI i), .int x, .int z, .ref (ad 12)]) (n := 6) (Nat.le_of_ble_eq_true rfl)
  rw [lg_entry_eq]
  generalize (lg_sl ([.ref (ad 0), .int (nI i), .int x, .int z, .ref (ad 12)]) ++ List.replicate (6 - (lg_sl ([.ref (ad 0), .int (nI i), .int x, .int z, .ref (ad 12)])).length) Slot.unset).toArray = ls at hl ⊢
  have hl : lv_has ls 6 [(0, .ref (ad 0)), (1, .int (nI i)), (2, .int x), (3, .int z), (4, .ref (ad 12))] := hl
  refine lv_aload hx hb dL_proof_0 (lv_at hl 4 rfl) ?_
  refine lv_iconst (v := nI 0) hx hb dL_proof_2 (by decide) ?_
  refine lv_aload_n hx hb dL_proof_3 rfl (lv_at hl 0 rfl) ?_
  refine lv_iload_n hx hb dL_proof_4 rfl (lv_at hl 1 rfl) ?_
  refine lv_iload_n hx hb dL_proof_5 rfl (lv_at hl 2 rfl) ?_
  refine lv_iload_n hx hb dL_proof_6 rfl (lv_at hl 3 rfl) ?_
  refine mx_caught (vx_runV (As := [.int (nI i), .int x, .int z]) (rest := [.int (nI 0), .ref (ad 12)]) ⟨hx, hb, hml, hown, hts⟩ (x_X2_proof2 l hst G cy ad n k v o hn hk _ i h_i x hbad z) (cwV 3 hts gL_proof_X2_proof rfl rfl rfl (by decide +kernel) ⟨Nat.le_of_ble_eq_true rfl, Nat.le_of_ble_eq_true rfl⟩) (mP_V (r := (RX2, TX2, 5)) hN hE S_0 rfl) rfl rfl hl.1 rfl (lv_room (Nat.le_of_ble_eq_true rfl)) dL_proof_7 ⟨Nat.le_of_ble_eq_true rfl, Nat.le_of_ble_eq_true rfl⟩) hE (fun q9 ce H locs hq1 hq2 hq3 hE => ?_)
  refine vx_catch hown [] ⟨0, 12, 15, 19⟩ [] htab (fun z hz => absurd hz List.not_mem_nil) rfl (by decide) (hts (.classLink RL 19 "java/lang/IndexOutOfBoundsException") (by decide +kernel)) (va_Nw.use rfl (hN.2.1 (.castable "java/lang/IndexOutOfBoundsException" "java/lang/IndexOutOfBoundsException") (by decide +kernel))) hq1 hq2 hq3 ?_
  dsimp only
  refine lv_astore (lv' := [(5, .ref q9), (0, .ref (ad 0)), (1, .int (nI i)), (2, .int x), (3, .int z), (4, .ref (ad 12))]) hx hb dL_proof_15 hl (by decide) rfl (fun ls hl => ?_)
  refine lv_iconst (v := nI 1) hx hb dL_proof_17 (by decide) ?_
  exact mx_iret hx hb hr hE hlocks ⟨rfl, rfl⟩ dL_proof_18

set_option maxHeartbeats 4000000 in
set_option maxRecDepth 100000 in
/-- proof of the law, refused -/
theorem x_L_proof3 (l : Launch) (hst : l.stackTraces = false) (G : va_G) (cy : Nat → ClassId) (ad : Nat → Nat) (n k : Nat) (v : Nat → Nat → Int32) (o : Nat → Int64) (hn : n ≤ 6) (hk : k ≤ 20) (sz : Nat) (i : Nat) (h_i : i < n) (d : Nat) (hd : d < 16) (x : Int32) (hbad : x < 0 ∨ nI 4 ≤ x) : mMi l yL_proof wsL_proof ({ frames := 9, cells := 1, slots := 6, locals := 180 }) G cy ad (Sy cy ad n k v o) sz [.ref (ad 0), .int (nI i), .int (nI d), .int x, .ref (ad 12)] 1 6 (fun (r : Int32) u => r = nI 1 ∧ u = (ad, Sy cy ad n k v o)) := by
  refine va_MetW (cc := cL_proof) (maxL := 6) (ret := (some .int)) (hh := [(0, 12, 15, 19)]) (by decide) rfl ?_
  intro p e s m args below meth c s₁ B hml hv
  obtain ⟨rfl, hv⟩ := hv
  have hsz := hv.1
  subst hsz
  have hN := hv.2.2
  have hE := mP_E hv
  have hx := B.exec
  have hb := B.bytes
  have hr := B.returns
  have hts := atoms_spec (ws := wsL_proof) B.pre
  have hown : s.vm.findClass RL = some m.cls := findClass_of_methodNamed B.named
  have hlocks := B.notSynchronized
  have htab : c.exceptionTable.toList = tableOf [(0, 12, 15, 19)] := vx_table (x := yL_proof) B (hts _ List.mem_cons_self)
  have hl := lv_entry ([.ref (ad 0), .int (nI i), .int (nI d), .int x, .ref (ad 12)]) (n := 6) (Nat.le_of_ble_eq_true rfl)
  rw [lg_entry_eq]
  generalize (lg_sl ([.ref (ad 0), .int (nI i), .int (nI d), .int x, .ref (ad 12)]) ++ List.replicate (6 - (lg_sl ([.ref (ad 0), .int (nI i), .int (nI d), .int x, .ref (ad 12)])).length) Slot.unset).toArray = ls at hl ⊢
  have hl : lv_has ls 6 [(0, .ref (ad 0)), (1, .int (nI i)), (2, .int (nI d)), (3, .int x), (4, .ref (ad 12))] := hl
  refine lv_aload hx hb dL_proof_0 (lv_at hl 4 rfl) ?_
  refine lv_iconst (v := nI 0) hx hb dL_proof_2 (by decide) ?_
  refine lv_aload_n hx hb dL_proof_3 rfl (lv_at hl 0 rfl) ?_
  refine lv_iload_n hx hb dL_proof_4 rfl (lv_at hl 1 rfl) ?_
  refine lv_iload_n hx hb dL_proof_5 rfl (lv_at hl 2 rfl) ?_
  refine lv_iload_n hx hb dL_proof_6 rfl (lv_at hl 3 rfl) ?_
  refine mx_caught (vx_runV (As := [.int (nI i), .int (nI d), .int x]) (rest := [.int (nI 0), .ref (ad 12)]) ⟨hx, hb, hml, hown, hts⟩ (x_X2_proof3 l hst G cy ad n k v o hn hk _ i h_i d hd x hbad) (cwV 3 hts gL_proof_X2_proof rfl rfl rfl (by decide +kernel) ⟨Nat.le_of_ble_eq_true rfl, Nat.le_of_ble_eq_true rfl⟩) (mP_V (r := (RX2, TX2, 5)) hN hE S_0 rfl) rfl rfl hl.1 rfl (lv_room (Nat.le_of_ble_eq_true rfl)) dL_proof_7 ⟨Nat.le_of_ble_eq_true rfl, Nat.le_of_ble_eq_true rfl⟩) hE (fun q9 ce H locs hq1 hq2 hq3 hE => ?_)
  refine vx_catch hown [] ⟨0, 12, 15, 19⟩ [] htab (fun z hz => absurd hz List.not_mem_nil) rfl (by decide) (hts (.classLink RL 19 "java/lang/IndexOutOfBoundsException") (by decide +kernel)) (va_Nw.use rfl (hN.2.1 (.castable "java/lang/IndexOutOfBoundsException" "java/lang/IndexOutOfBoundsException") (by decide +kernel))) hq1 hq2 hq3 ?_
  dsimp only
  refine lv_astore (lv' := [(5, .ref q9), (0, .ref (ad 0)), (1, .int (nI i)), (2, .int (nI d)), (3, .int x), (4, .ref (ad 12))]) hx hb dL_proof_15 hl (by decide) rfl (fun ls hl => ?_)
  refine lv_iconst (v := nI 1) hx hb dL_proof_17 (by decide) ?_
  exact mx_iret hx hb hr hE hlocks ⟨rfl, rfl⟩ dL_proof_18

set_option maxHeartbeats 4000000 in
set_option maxRecDepth 100000 in
/-- comes of the law -/
theorem c_L_comes (l : Launch) (G : va_G) (cy : Nat → ClassId) (ad : Nat → Nat) (n k : Nat) (v : Nat → Nat → Int32) (o : Nat → Int64) (hn : n ≤ 6) (hk : k ≤ 20) (sz : Nat) (d t9 a1 a2 a3 a4 : Nat) (hd : d < 16) (ht9 : t9 < 10000) (h1 : a1 < 997) (h2 : a2 < 997) (h3 : a3 < 997) (h4 : a4 < 997) : mMi l yL_comes wsL_comes ({ frames := 10, cells := 0, slots := 0, locals := 220 }) G cy ad (Sy cy ad n k v o) sz [.ref (ad 0), .int (nI d), .int (nI t9), .int (nI a1), .int (nI a2), .int (nI a3), .int (nI a4), .ref (ad 12)] 0 0 (fun (r : Int32) u => r = nI 0 ∧ u = (ad, Sy cy ad n k v (vp_updL o 0 (mComes d (nI t9) (nI a1) (nI a2) (nI a3) (nI a4)).toInt64))) := by
  refine va_MetW (cc := cL_comes) (maxL := 9) (ret := (some .int)) (hh := [(0, 18, 21, 19), (0, 18, 25, 21)]) (by decide) rfl ?_
  intro p e s m args below meth c s₁ B hml hv
  obtain ⟨rfl, hv⟩ := hv
  have hsz := hv.1
  subst hsz
  have hN := hv.2.2
  have hE := mP_E hv
  have hx := B.exec
  have hb := B.bytes
  have hr := B.returns
  have hts := atoms_spec (ws := wsL_comes) B.pre
  have hown : s.vm.findClass RL = some m.cls := findClass_of_methodNamed B.named
  have hlocks := B.notSynchronized
  have htab : c.exceptionTable.toList = tableOf [(0, 18, 21, 19), (0, 18, 25, 21)] := vx_table (x := yL_comes) B (hts _ List.mem_cons_self)
  have hl := lv_entry ([.ref (ad 0), .int (nI d), .int (nI t9), .int (nI a1), .int (nI a2), .int (nI a3), .int (nI a4), .ref (ad 12)]) (n := 9) (Nat.le_of_ble_eq_true rfl)
  rw [lg_entry_eq]
  generalize (lg_sl ([.ref (ad 0), .int (nI d), .int (nI t9), .int (nI a1), .int (nI a2), .int (nI a3), .int (nI a4), .ref (ad 12)]) ++ List.replicate (9 - (lg_sl ([.ref (ad 0), .int (nI d), .int (nI t9), .int (nI a1), .int (nI a2), .int (nI a3), .int (nI a4), .ref (ad 12)])).length) Slot.unset).toArray = ls at hl ⊢
  have hl : lv_has ls 9 [(0, .ref (ad 0)), (1, .int (nI d)), (2, .int (nI t9)), (3, .int (nI a1)), (4, .int (nI a2)), (5, .int (nI a3)), (6, .int (nI a4)), (7, .ref (ad 12))] := hl
  refine lv_aload hx hb dL_comes_0 (lv_at hl 7 rfl) ?_
  refine lv_iconst (v := nI 0) hx hb dL_comes_2 (by decide) ?_
  refine lv_aload_n hx hb dL_comes_3 rfl (lv_at hl 0 rfl) ?_
  refine lv_iload_n hx hb dL_comes_4 rfl (lv_at hl 1 rfl) ?_
  refine lv_iload_n hx hb dL_comes_5 rfl (lv_at hl 2 rfl) ?_
  refine lv_iload_n hx hb dL_comes_6 rfl (lv_at hl 3 rfl) ?_
  refine lv_iload hx hb dL_comes_7 (lv_at hl 4 rfl) ?_
  refine lv_iload hx hb dL_comes_9 (lv_at hl 5 rfl) ?_
  refine lv_iload hx hb dL_comes_11 (lv_at hl 6 rfl) ?_
  refine va_calli (va_runV (As := [.int (nI d), .int (nI t9), .int (nI a1), .int (nI a2), .int (nI a3), .int (nI a4)]) (rest := [.int (nI 0), .ref (ad 12)]) ⟨hx, hb, hml, hown, hts⟩ (c_X2_comes l G cy ad n k v o hn hk _ d t9 a1 a2 a3 a4 hd ht9 h1 h2 h3 h4) (cwV 6 hts gL_comes_X2_comes rfl rfl rfl (by decide +kernel) ⟨Nat.le_of_ble_eq_true rfl, Nat.le_of_ble_eq_true rfl⟩) (mP_V (r := (RX2, TX2, 5)) hN hE S_0 rfl) rfl rfl hl.1 rfl (lv_room (Nat.le_of_ble_eq_true rfl)) dL_comes_13 ⟨Nat.le_of_ble_eq_true rfl, Nat.le_of_ble_eq_true rfl⟩) hE.2.2.2 (fun q _ h => mE_A hE q h) (mE_A hE) (fun r uq tq H locs ht hvm hw hB hz1 hk1 hS => ?_)
  obtain ⟨rfl, rfl⟩ := hw
  have hE : mE G (mA ad (Sy cy ad n k v o) s.heap.size) s.heap ad (Sy cy ad n k v o) H locs := mE_call hE hB ht hS
  refine lv_i2l hx hb dL_comes_16 rfl ?_
  refine mx_last hx hb hN hE S_12 (j := 0) rfl (by decide) (by decide) dL_comes_17 (fun H locs hE => ?_)
  rw [S_out] at hE
  refine lv_goto (tgt := 29) hx hb dL_comes_18 (by decide) ?_
  refine lv_iconst (v := nI 0) hx hb dL_comes_29 (by decide) ?_
  exact mx_iret hx hb hr hE hlocks ⟨rfl, rfl⟩ dL_comes_30

set_option maxHeartbeats 4000000 in
set_option maxRecDepth 100000 in
/-- comes of the law, refused -/
theorem x_L_comes1 (l : Launch) (hst : l.stackTraces = false) (G : va_G) (cy : Nat → ClassId) (ad : Nat → Nat) (n k : Nat) (v : Nat → Nat → Int32) (o : Nat → Int64) (hn : n ≤ 6) (hk : k ≤ 20) (sz : Nat) (x : Int32) (hbad : x < 0 ∨ nI 16 ≤ x) (z1 : Int32) (z2 : Int32) (z3 : Int32) (z4 : Int32) (z5 : Int32) : mMi l yL_comes wsL_comes ({ frames := 10, cells := 1, slots := 6, locals := 220 }) G cy ad (Sy cy ad n k v o) sz [.ref (ad 0), .int x, .int z1, .int z2, .int z3, .int z4, .int z5, .ref (ad 12)] 1 6 (fun (r : Int32) u => r = nI 1 ∧ u = (ad, Sy cy ad n k v o)) := by
  refine va_MetW (cc := cL_comes) (maxL := 9) (ret := (some .int)) (hh := [(0, 18, 21, 19), (0, 18, 25, 21)]) (by decide) rfl ?_
  intro p e s m args below meth c s₁ B hml hv
  obtain ⟨rfl, hv⟩ := hv
  have hsz := hv.1
  subst hsz
  have hN := hv.2.2
  have hE := mP_E hv
  have hx := B.exec
  have hb := B.bytes
  have hr := B.returns
  have hts := atoms_spec (ws := wsL_comes) B.pre
  have hown : s.vm.findClass RL = some m.cls := findClass_of_methodNamed B.named
  have hlocks := B.notSynchronized
  have htab : c.exceptionTable.toList = tableOf [(0, 18, 21, 19), (0, 18, 25, 21)] := vx_table (x := yL_comes) B (hts _ List.mem_cons_self)
  have hl := lv_entry ([.ref (ad 0), .int x, .int z1, .int z2, .int z3, .int z4, .int z5, .ref (ad 12)]) (n := 9) (Nat.le_of_ble_eq_true rfl)
  rw [lg_entry_eq]
  generalize (lg_sl ([.ref (ad 0), .int x, .int z1, .int z2, .int z3, .int z4, .int z5, .ref (ad 12)]) ++ List.replicate (9 - (lg_sl ([.ref (ad 0), .int x, .int z1, .int z2, .int z3, .int z4, .int z5, .ref (ad 12)])).length) Slot.unset).toArray = ls at hl ⊢
  have hl : lv_has ls 9 [(0, .ref (ad 0)), (1, .int x), (2, .int z1), (3, .int z2), (4, .int z3), (5, .int z4), (6, .int z5), (7, .ref (ad 12))] := hl
  refine lv_aload hx hb dL_comes_0 (lv_at hl 7 rfl) ?_
  refine lv_iconst (v := nI 0) hx hb dL_comes_2 (by decide) ?_
  refine lv_aload_n hx hb dL_comes_3 rfl (lv_at hl 0 rfl) ?_
  refine lv_iload_n hx hb dL_comes_4 rfl (lv_at hl 1 rfl) ?_
  refine lv_iload_n hx hb dL_comes_5 rfl (lv_at hl 2 rfl) ?_
  refine lv_iload_n hx hb dL_comes_6 rfl (lv_at hl 3 rfl) ?_
  refine lv_iload hx hb dL_comes_7 (lv_at hl 4 rfl) ?_
  refine lv_iload hx hb dL_comes_9 (lv_at hl 5 rfl) ?_
  refine lv_iload hx hb dL_comes_11 (lv_at hl 6 rfl) ?_
  refine mx_caught (vx_runV (As := [.int x, .int z1, .int z2, .int z3, .int z4, .int z5]) (rest := [.int (nI 0), .ref (ad 12)]) ⟨hx, hb, hml, hown, hts⟩ (x_X2_comes1 l hst G cy ad n k v o hn hk _ x hbad z1 z2 z3 z4 z5) (cwV 6 hts gL_comes_X2_comes rfl rfl rfl (by decide +kernel) ⟨Nat.le_of_ble_eq_true rfl, Nat.le_of_ble_eq_true rfl⟩) (mP_V (r := (RX2, TX2, 5)) hN hE S_0 rfl) rfl rfl hl.1 rfl (lv_room (Nat.le_of_ble_eq_true rfl)) dL_comes_13 ⟨Nat.le_of_ble_eq_true rfl, Nat.le_of_ble_eq_true rfl⟩) hE (fun q9 ce H locs hq1 hq2 hq3 hE => ?_)
  refine vx_catch hown [] ⟨0, 18, 21, 19⟩ [⟨0, 18, 25, 21⟩] htab (fun z hz => absurd hz List.not_mem_nil) rfl (by decide) (hts (.classLink RL 19 "java/lang/IndexOutOfBoundsException") (by decide +kernel)) (va_Nw.use rfl (hN.2.1 (.castable "java/lang/IndexOutOfBoundsException" "java/lang/IndexOutOfBoundsException") (by decide +kernel))) hq1 hq2 hq3 ?_
  dsimp only
  refine lv_astore (lv' := [(8, .ref q9), (0, .ref (ad 0)), (1, .int x), (2, .int z1), (3, .int z2), (4, .int z3), (5, .int z4), (6, .int z5), (7, .ref (ad 12))]) hx hb dL_comes_21 hl (by decide) rfl (fun ls hl => ?_)
  refine lv_iconst (v := nI 1) hx hb dL_comes_23 (by decide) ?_
  exact mx_iret hx hb hr hE hlocks ⟨rfl, rfl⟩ dL_comes_24

set_option maxHeartbeats 4000000 in
set_option maxRecDepth 100000 in
/-- comes of the law, refused -/
theorem x_L_comes2 (l : Launch) (hst : l.stackTraces = false) (G : va_G) (cy : Nat → ClassId) (ad : Nat → Nat) (n k : Nat) (v : Nat → Nat → Int32) (o : Nat → Int64) (hn : n ≤ 6) (hk : k ≤ 20) (sz : Nat) (d : Nat) (h_d : d < 16) (x : Int32) (hbad : x < 0 ∨ nI 10000 ≤ x) (z2 : Int32) (z3 : Int32) (z4 : Int32) (z5 : Int32) : mMi l yL_comes wsL_comes ({ frames := 10, cells := 1, slots := 6, locals := 220 }) G cy ad (Sy cy ad n k v o) sz [.ref (ad 0), .int (nI d), .int x, .int z2, .int z3, .int z4, .int z5, .ref (ad 12)] 1 6 (fun (r : Int32) u => r = nI 2 ∧ u = (ad, Sy cy ad n k v o)) := by
  refine va_MetW (cc := cL_comes) (maxL := 9) (ret := (some .int)) (hh := [(0, 18, 21, 19), (0, 18, 25, 21)]) (by decide) rfl ?_
  intro p e s m args below meth c s₁ B hml hv
  obtain ⟨rfl, hv⟩ := hv
  have hsz := hv.1
  subst hsz
  have hN := hv.2.2
  have hE := mP_E hv
  have hx := B.exec
  have hb := B.bytes
  have hr := B.returns
  have hts := atoms_spec (ws := wsL_comes) B.pre
  have hown : s.vm.findClass RL = some m.cls := findClass_of_methodNamed B.named
  have hlocks := B.notSynchronized
  have htab : c.exceptionTable.toList = tableOf [(0, 18, 21, 19), (0, 18, 25, 21)] := vx_table (x := yL_comes) B (hts _ List.mem_cons_self)
  have hl := lv_entry ([.ref (ad 0), .int (nI d), .int x, .int z2, .int z3, .int z4, .int z5, .ref (ad 12)]) (n := 9) (Nat.le_of_ble_eq_true rfl)
  rw [lg_entry_eq]
  generalize (lg_sl ([.ref (ad 0), .int (nI d), .int x, .int z2, .int z3, .int z4, .int z5, .ref (ad 12)]) ++ List.replicate (9 - (lg_sl ([.ref (ad 0), .int (nI d), .int x, .int z2, .int z3, .int z4, .int z5, .ref (ad 12)])).length) Slot.unset).toArray = ls at hl ⊢
  have hl : lv_has ls 9 [(0, .ref (ad 0)), (1, .int (nI d)), (2, .int x), (3, .int z2), (4, .int z3), (5, .int z4), (6, .int z5), (7, .ref (ad 12))] := hl
  refine lv_aload hx hb dL_comes_0 (lv_at hl 7 rfl) ?_
  refine lv_iconst (v := nI 0) hx hb dL_comes_2 (by decide) ?_
  refine lv_aload_n hx hb dL_comes_3 rfl (lv_at hl 0 rfl) ?_
  refine lv_iload_n hx hb dL_comes_4 rfl (lv_at hl 1 rfl) ?_
  refine lv_iload_n hx hb dL_comes_5 rfl (lv_at hl 2 rfl) ?_
  refine lv_iload_n hx hb dL_comes_6 rfl (lv_at hl 3 rfl) ?_
  refine lv_iload hx hb dL_comes_7 (lv_at hl 4 rfl) ?_
  refine lv_iload hx hb dL_comes_9 (lv_at hl 5 rfl) ?_
  refine lv_iload hx hb dL_comes_11 (lv_at hl 6 rfl) ?_
  refine mx_caught (vx_runV (As := [.int (nI d), .int x, .int z2, .int z3, .int z4, .int z5]) (rest := [.int (nI 0), .ref (ad 12)]) ⟨hx, hb, hml, hown, hts⟩ (x_X2_comes2 l hst G cy ad n k v o hn hk _ d h_d x hbad z2 z3 z4 z5) (cwV 6 hts gL_comes_X2_comes rfl rfl rfl (by decide +kernel) ⟨Nat.le_of_ble_eq_true rfl, Nat.le_of_ble_eq_true rfl⟩) (mP_V (r := (RX2, TX2, 5)) hN hE S_0 rfl) rfl rfl hl.1 rfl (lv_room (Nat.le_of_ble_eq_true rfl)) dL_comes_13 ⟨Nat.le_of_ble_eq_true rfl, Nat.le_of_ble_eq_true rfl⟩) hE (fun q9 ce H locs hq1 hq2 hq3 hE => ?_)
  refine vx_catch hown [⟨0, 18, 21, 19⟩] ⟨0, 18, 25, 21⟩ [] htab (fun z hz => by rw [List.mem_singleton] at hz; subst hz; exact Or.inr ⟨by decide, "java/lang/IndexOutOfBoundsException", (hts (.classLink RL 19 "java/lang/IndexOutOfBoundsException") (by decide +kernel)), hN.2.2.2.2.2.2 ("java/lang/IllegalArgumentException", "java/lang/IndexOutOfBoundsException") (by decide +kernel)⟩) rfl (by decide) (hts (.classLink RL 21 "java/lang/IllegalArgumentException") (by decide +kernel)) (va_Nw.use rfl (hN.2.1 (.castable "java/lang/IllegalArgumentException" "java/lang/IllegalArgumentException") (by decide +kernel))) hq1 hq2 hq3 ?_
  dsimp only
  refine lv_astore (lv' := [(8, .ref q9), (0, .ref (ad 0)), (1, .int (nI d)), (2, .int x), (3, .int z2), (4, .int z3), (5, .int z4), (6, .int z5), (7, .ref (ad 12))]) hx hb dL_comes_25 hl (by decide) rfl (fun ls hl => ?_)
  refine lv_iconst (v := nI 2) hx hb dL_comes_27 (by decide) ?_
  exact mx_iret hx hb hr hE hlocks ⟨rfl, rfl⟩ dL_comes_28

set_option maxHeartbeats 4000000 in
set_option maxRecDepth 100000 in
/-- comes of the law, refused -/
theorem x_L_comes3 (l : Launch) (hst : l.stackTraces = false) (G : va_G) (cy : Nat → ClassId) (ad : Nat → Nat) (n k : Nat) (v : Nat → Nat → Int32) (o : Nat → Int64) (hn : n ≤ 6) (hk : k ≤ 20) (sz : Nat) (d : Nat) (h_d : d < 16) (t9 : Nat) (h_t9 : t9 < 10000) (x : Int32) (hbad : x < 0 ∨ nI 997 ≤ x) (z3 : Int32) (z4 : Int32) (z5 : Int32) : mMi l yL_comes wsL_comes ({ frames := 10, cells := 1, slots := 6, locals := 220 }) G cy ad (Sy cy ad n k v o) sz [.ref (ad 0), .int (nI d), .int (nI t9), .int x, .int z3, .int z4, .int z5, .ref (ad 12)] 1 6 (fun (r : Int32) u => r = nI 2 ∧ u = (ad, Sy cy ad n k v o)) := by
  refine va_MetW (cc := cL_comes) (maxL := 9) (ret := (some .int)) (hh := [(0, 18, 21, 19), (0, 18, 25, 21)]) (by decide) rfl ?_
  intro p e s m args below meth c s₁ B hml hv
  obtain ⟨rfl, hv⟩ := hv
  have hsz := hv.1
  subst hsz
  have hN := hv.2.2
  have hE := mP_E hv
  have hx := B.exec
  have hb := B.bytes
  have hr := B.returns
  have hts := atoms_spec (ws := wsL_comes) B.pre
  have hown : s.vm.findClass RL = some m.cls := findClass_of_methodNamed B.named
  have hlocks := B.notSynchronized
  have htab : c.exceptionTable.toList = tableOf [(0, 18, 21, 19), (0, 18, 25, 21)] := vx_table (x := yL_comes) B (hts _ List.mem_cons_self)
  have hl := lv_entry ([.ref (ad 0), .int (nI d), .int (nI t9), .int x, .int z3, .int z4, .int z5, .ref (ad 12)]) (n := 9) (Nat.le_of_ble_eq_true rfl)
  rw [lg_entry_eq]
  generalize (lg_sl ([.ref (ad 0), .int (nI d), .int (nI t9), .int x, .int z3, .int z4, .int z5, .ref (ad 12)]) ++ List.replicate (9 - (lg_sl ([.ref (ad 0), .int (nI d), .int (nI t9), .int x, .int z3, .int z4, .int z5, .ref (ad 12)])).length) Slot.unset).toArray = ls at hl ⊢
  have hl : lv_has ls 9 [(0, .ref (ad 0)), (1, .int (nI d)), (2, .int (nI t9)), (3, .int x), (4, .int z3), (5, .int z4), (6, .int z5), (7, .ref (ad 12))] := hl
  refine lv_aload hx hb dL_comes_0 (lv_at hl 7 rfl) ?_
  refine lv_iconst (v := nI 0) hx hb dL_comes_2 (by decide) ?_
  refine lv_aload_n hx hb dL_comes_3 rfl (lv_at hl 0 rfl) ?_
  refine lv_iload_n hx hb dL_comes_4 rfl (lv_at hl 1 rfl) ?_
  refine lv_iload_n hx hb dL_comes_5 rfl (lv_at hl 2 rfl) ?_
  refine lv_iload_n hx hb dL_comes_6 rfl (lv_at hl 3 rfl) ?_
  refine lv_iload hx hb dL_comes_7 (lv_at hl 4 rfl) ?_
  refine lv_iload hx hb dL_comes_9 (lv_at hl 5 rfl) ?_
  refine lv_iload hx hb dL_comes_11 (lv_at hl 6 rfl) ?_
  refine mx_caught (vx_runV (As := [.int (nI d), .int (nI t9), .int x, .int z3, .int z4, .int z5]) (rest := [.int (nI 0), .ref (ad 12)]) ⟨hx, hb, hml, hown, hts⟩ (x_X2_comes3 l hst G cy ad n k v o hn hk _ d h_d t9 h_t9 x hbad z3 z4 z5) (cwV 6 hts gL_comes_X2_comes rfl rfl rfl (by decide +kernel) ⟨Nat.le_of_ble_eq_true rfl, Nat.le_of_ble_eq_true rfl⟩) (mP_V (r := (RX2, TX2, 5)) hN hE S_0 rfl) rfl rfl hl.1 rfl (lv_room (Nat.le_of_ble_eq_true rfl)) dL_comes_13 ⟨Nat.le_of_ble_eq_true rfl, Nat.le_of_ble_eq_true rfl⟩) hE (fun q9 ce H locs hq1 hq2 hq3 hE => ?_)
  refine vx_catch hown [⟨0, 18, 21, 19⟩] ⟨0, 18, 25, 21⟩ [] htab (fun z hz => by rw [List.mem_singleton] at hz; subst hz; exact Or.inr ⟨by decide, "java/lang/IndexOutOfBoundsException", (hts (.classLink RL 19 "java/lang/IndexOutOfBoundsException") (by decide +kernel)), hN.2.2.2.2.2.2 ("java/lang/IllegalArgumentException", "java/lang/IndexOutOfBoundsException") (by decide +kernel)⟩) rfl (by decide) (hts (.classLink RL 21 "java/lang/IllegalArgumentException") (by decide +kernel)) (va_Nw.use rfl (hN.2.1 (.castable "java/lang/IllegalArgumentException" "java/lang/IllegalArgumentException") (by decide +kernel))) hq1 hq2 hq3 ?_
  dsimp only
  refine lv_astore (lv' := [(8, .ref q9), (0, .ref (ad 0)), (1, .int (nI d)), (2, .int (nI t9)), (3, .int x), (4, .int z3), (5, .int z4), (6, .int z5), (7, .ref (ad 12))]) hx hb dL_comes_25 hl (by decide) rfl (fun ls hl => ?_)
  refine lv_iconst (v := nI 2) hx hb dL_comes_27 (by decide) ?_
  exact mx_iret hx hb hr hE hlocks ⟨rfl, rfl⟩ dL_comes_28

set_option maxHeartbeats 4000000 in
set_option maxRecDepth 100000 in
/-- comes of the law, refused -/
theorem x_L_comes4 (l : Launch) (hst : l.stackTraces = false) (G : va_G) (cy : Nat → ClassId) (ad : Nat → Nat) (n k : Nat) (v : Nat → Nat → Int32) (o : Nat → Int64) (hn : n ≤ 6) (hk : k ≤ 20) (sz : Nat) (d : Nat) (h_d : d < 16) (t9 : Nat) (h_t9 : t9 < 10000) (a1 : Nat) (h_a1 : a1 < 997) (x : Int32) (hbad : x < 0 ∨ nI 997 ≤ x) (z4 : Int32) (z5 : Int32) : mMi l yL_comes wsL_comes ({ frames := 10, cells := 1, slots := 6, locals := 220 }) G cy ad (Sy cy ad n k v o) sz [.ref (ad 0), .int (nI d), .int (nI t9), .int (nI a1), .int x, .int z4, .int z5, .ref (ad 12)] 1 6 (fun (r : Int32) u => r = nI 2 ∧ u = (ad, Sy cy ad n k v o)) := by
  refine va_MetW (cc := cL_comes) (maxL := 9) (ret := (some .int)) (hh := [(0, 18, 21, 19), (0, 18, 25, 21)]) (by decide) rfl ?_
  intro p e s m args below meth c s₁ B hml hv
  obtain ⟨rfl, hv⟩ := hv
  have hsz := hv.1
  subst hsz
  have hN := hv.2.2
  have hE := mP_E hv
  have hx := B.exec
  have hb := B.bytes
  have hr := B.returns
  have hts := atoms_spec (ws := wsL_comes) B.pre
  have hown : s.vm.findClass RL = some m.cls := findClass_of_methodNamed B.named
  have hlocks := B.notSynchronized
  have htab : c.exceptionTable.toList = tableOf [(0, 18, 21, 19), (0, 18, 25, 21)] := vx_table (x := yL_comes) B (hts _ List.mem_cons_self)
  have hl := lv_entry ([.ref (ad 0), .int (nI d), .int (nI t9), .int (nI a1), .int x, .int z4, .int z5, .ref (ad 12)]) (n := 9) (Nat.le_of_ble_eq_true rfl)
  rw [lg_entry_eq]
  generalize (lg_sl ([.ref (ad 0), .int (nI d), .int (nI t9), .int (nI a1), .int x, .int z4, .int z5, .ref (ad 12)]) ++ List.replicate (9 - (lg_sl ([.ref (ad 0), .int (nI d), .int (nI t9), .int (nI a1), .int x, .int z4, .int z5, .ref (ad 12)])).length) Slot.unset).toArray = ls at hl ⊢
  have hl : lv_has ls 9 [(0, .ref (ad 0)), (1, .int (nI d)), (2, .int (nI t9)), (3, .int (nI a1)), (4, .int x), (5, .int z4), (6, .int z5), (7, .ref (ad 12))] := hl
  refine lv_aload hx hb dL_comes_0 (lv_at hl 7 rfl) ?_
  refine lv_iconst (v := nI 0) hx hb dL_comes_2 (by decide) ?_
  refine lv_aload_n hx hb dL_comes_3 rfl (lv_at hl 0 rfl) ?_
  refine lv_iload_n hx hb dL_comes_4 rfl (lv_at hl 1 rfl) ?_
  refine lv_iload_n hx hb dL_comes_5 rfl (lv_at hl 2 rfl) ?_
  refine lv_iload_n hx hb dL_comes_6 rfl (lv_at hl 3 rfl) ?_
  refine lv_iload hx hb dL_comes_7 (lv_at hl 4 rfl) ?_
  refine lv_iload hx hb dL_comes_9 (lv_at hl 5 rfl) ?_
  refine lv_iload hx hb dL_comes_11 (lv_at hl 6 rfl) ?_
  refine mx_caught (vx_runV (As := [.int (nI d), .int (nI t9), .int (nI a1), .int x, .int z4, .int z5]) (rest := [.int (nI 0), .ref (ad 12)]) ⟨hx, hb, hml, hown, hts⟩ (x_X2_comes4 l hst G cy ad n k v o hn hk _ d h_d t9 h_t9 a1 h_a1 x hbad z4 z5) (cwV 6 hts gL_comes_X2_comes rfl rfl rfl (by decide +kernel) ⟨Nat.le_of_ble_eq_true rfl, Nat.le_of_ble_eq_true rfl⟩) (mP_V (r := (RX2, TX2, 5)) hN hE S_0 rfl) rfl rfl hl.1 rfl (lv_room (Nat.le_of_ble_eq_true rfl)) dL_comes_13 ⟨Nat.le_of_ble_eq_true rfl, Nat.le_of_ble_eq_true rfl⟩) hE (fun q9 ce H locs hq1 hq2 hq3 hE => ?_)
  refine vx_catch hown [⟨0, 18, 21, 19⟩] ⟨0, 18, 25, 21⟩ [] htab (fun z hz => by rw [List.mem_singleton] at hz; subst hz; exact Or.inr ⟨by decide, "java/lang/IndexOutOfBoundsException", (hts (.classLink RL 19 "java/lang/IndexOutOfBoundsException") (by decide +kernel)), hN.2.2.2.2.2.2 ("java/lang/IllegalArgumentException", "java/lang/IndexOutOfBoundsException") (by decide +kernel)⟩) rfl (by decide) (hts (.classLink RL 21 "java/lang/IllegalArgumentException") (by decide +kernel)) (va_Nw.use rfl (hN.2.1 (.castable "java/lang/IllegalArgumentException" "java/lang/IllegalArgumentException") (by decide +kernel))) hq1 hq2 hq3 ?_
  dsimp only
  refine lv_astore (lv' := [(8, .ref q9), (0, .ref (ad 0)), (1, .int (nI d)), (2, .int (nI t9)), (3, .int (nI a1)), (4, .int x), (5, .int z4), (6, .int z5), (7, .ref (ad 12))]) hx hb dL_comes_25 hl (by decide) rfl (fun ls hl => ?_)
  refine lv_iconst (v := nI 2) hx hb dL_comes_27 (by decide) ?_
  exact mx_iret hx hb hr hE hlocks ⟨rfl, rfl⟩ dL_comes_28

set_option maxHeartbeats 4000000 in
set_option maxRecDepth 100000 in
/-- comes of the law, refused -/
theorem x_L_comes5 (l : Launch) (hst : l.stackTraces = false) (G : va_G) (cy : Nat → ClassId) (ad : Nat → Nat) (n k : Nat) (v : Nat → Nat → Int32) (o : Nat → Int64) (hn : n ≤ 6) (hk : k ≤ 20) (sz : Nat) (d : Nat) (h_d : d < 16) (t9 : Nat) (h_t9 : t9 < 10000) (a1 : Nat) (h_a1 : a1 < 997) (a2 : Nat) (h_a2 : a2 < 997) (x : Int32) (hbad : x < 0 ∨ nI 997 ≤ x) (z5 : Int32) : mMi l yL_comes wsL_comes ({ frames := 10, cells := 1, slots := 6, locals := 220 }) G cy ad (Sy cy ad n k v o) sz [.ref (ad 0), .int (nI d), .int (nI t9), .int (nI a1), .int (nI a2), .int x, .int z5, .ref (ad 12)] 1 6 (fun (r : Int32) u => r = nI 2 ∧ u = (ad, Sy cy ad n k v o)) := by
  refine va_MetW (cc := cL_comes) (maxL := 9) (ret := (some .int)) (hh := [(0, 18, 21, 19), (0, 18, 25, 21)]) (by decide) rfl ?_
  intro p e s m args below meth c s₁ B hml hv
  obtain ⟨rfl, hv⟩ := hv
  have hsz := hv.1
  subst hsz
  have hN := hv.2.2
  have hE := mP_E hv
  have hx := B.exec
  have hb := B.bytes
  have hr := B.returns
  have hts := atoms_spec (ws := wsL_comes) B.pre
  have hown : s.vm.findClass RL = some m.cls := findClass_of_methodNamed B.named
  have hlocks := B.notSynchronized
  have htab : c.exceptionTable.toList = tableOf [(0, 18, 21, 19), (0, 18, 25, 21)] := vx_table (x := yL_comes) B (hts _ List.mem_cons_self)
  have hl := lv_entry ([.ref (ad 0), .int (nI d), .int (nI t9), .int (nI a1), .int (nI a2), .int x, .int z5, .ref (ad 12)]) (n := 9) (Nat.le_of_ble_eq_true rfl)
  rw [lg_entry_eq]
  generalize (lg_sl ([.ref (ad 0), .int (nI d), .int (nI t9), .int (nI a1), .int (nI a2), .int x, .int z5, .ref (ad 12)]) ++ List.replicate (9 - (lg_sl ([.ref (ad 0), .int (nI d), .int (nI t9), .int (nI a1), .int (nI a2), .int x, .int z5, .ref (ad 12)])).length) Slot.unset).toArray = ls at hl ⊢
  have hl : lv_has ls 9 [(0, .ref (ad 0)), (1, .int (nI d)), (2, .int (nI t9)), (3, .int (nI a1)), (4, .int (nI a2)), (5, .int x), (6, .int z5), (7, .ref (ad 12))] := hl
  refine lv_aload hx hb dL_comes_0 (lv_at hl 7 rfl) ?_
  refine lv_iconst (v := nI 0) hx hb dL_comes_2 (by decide) ?_
  refine lv_aload_n hx hb dL_comes_3 rfl (lv_at hl 0 rfl) ?_
  refine lv_iload_n hx hb dL_comes_4 rfl (lv_at hl 1 rfl) ?_
  refine lv_iload_n hx hb dL_comes_5 rfl (lv_at hl 2 rfl) ?_
  refine lv_iload_n hx hb dL_comes_6 rfl (lv_at hl 3 rfl) ?_
  refine lv_iload hx hb dL_comes_7 (lv_at hl 4 rfl) ?_
  refine lv_iload hx hb dL_comes_9 (lv_at hl 5 rfl) ?_
  refine lv_iload hx hb dL_comes_11 (lv_at hl 6 rfl) ?_
  refine mx_caught (vx_runV (As := [.int (nI d), .int (nI t9), .int (nI a1), .int (nI a2), .int x, .int z5]) (rest := [.int (nI 0), .ref (ad 12)]) ⟨hx, hb, hml, hown, hts⟩ (x_X2_comes5 l hst G cy ad n k v o hn hk _ d h_d t9 h_t9 a1 h_a1 a2 h_a2 x hbad z5) (cwV 6 hts gL_comes_X2_comes rfl rfl rfl (by decide +kernel) ⟨Nat.le_of_ble_eq_true rfl, Nat.le_of_ble_eq_true rfl⟩) (mP_V (r := (RX2, TX2, 5)) hN hE S_0 rfl) rfl rfl hl.1 rfl (lv_room (Nat.le_of_ble_eq_true rfl)) dL_comes_13 ⟨Nat.le_of_ble_eq_true rfl, Nat.le_of_ble_eq_true rfl⟩) hE (fun q9 ce H locs hq1 hq2 hq3 hE => ?_)
  refine vx_catch hown [⟨0, 18, 21, 19⟩] ⟨0, 18, 25, 21⟩ [] htab (fun z hz => by rw [List.mem_singleton] at hz; subst hz; exact Or.inr ⟨by decide, "java/lang/IndexOutOfBoundsException", (hts (.classLink RL 19 "java/lang/IndexOutOfBoundsException") (by decide +kernel)), hN.2.2.2.2.2.2 ("java/lang/IllegalArgumentException", "java/lang/IndexOutOfBoundsException") (by decide +kernel)⟩) rfl (by decide) (hts (.classLink RL 21 "java/lang/IllegalArgumentException") (by decide +kernel)) (va_Nw.use rfl (hN.2.1 (.castable "java/lang/IllegalArgumentException" "java/lang/IllegalArgumentException") (by decide +kernel))) hq1 hq2 hq3 ?_
  dsimp only
  refine lv_astore (lv' := [(8, .ref q9), (0, .ref (ad 0)), (1, .int (nI d)), (2, .int (nI t9)), (3, .int (nI a1)), (4, .int (nI a2)), (5, .int x), (6, .int z5), (7, .ref (ad 12))]) hx hb dL_comes_25 hl (by decide) rfl (fun ls hl => ?_)
  refine lv_iconst (v := nI 2) hx hb dL_comes_27 (by decide) ?_
  exact mx_iret hx hb hr hE hlocks ⟨rfl, rfl⟩ dL_comes_28

set_option maxHeartbeats 4000000 in
set_option maxRecDepth 100000 in
/-- comes of the law, refused -/
theorem x_L_comes6 (l : Launch) (hst : l.stackTraces = false) (G : va_G) (cy : Nat → ClassId) (ad : Nat → Nat) (n k : Nat) (v : Nat → Nat → Int32) (o : Nat → Int64) (hn : n ≤ 6) (hk : k ≤ 20) (sz : Nat) (d : Nat) (h_d : d < 16) (t9 : Nat) (h_t9 : t9 < 10000) (a1 : Nat) (h_a1 : a1 < 997) (a2 : Nat) (h_a2 : a2 < 997) (a3 : Nat) (h_a3 : a3 < 997) (x : Int32) (hbad : x < 0 ∨ nI 997 ≤ x) : mMi l yL_comes wsL_comes ({ frames := 10, cells := 1, slots := 6, locals := 220 }) G cy ad (Sy cy ad n k v o) sz [.ref (ad 0), .int (nI d), .int (nI t9), .int (nI a1), .int (nI a2), .int (nI a3), .int x, .ref (ad 12)] 1 6 (fun (r : Int32) u => r = nI 2 ∧ u = (ad, Sy cy ad n k v o)) := by
  refine va_MetW (cc := cL_comes) (maxL := 9) (ret := (some .int)) (hh := [(0, 18, 21, 19), (0, 18, 25, 21)]) (by decide) rfl ?_
  intro p e s m args below meth c s₁ B hml hv
  obtain ⟨rfl, hv⟩ := hv
  have hsz := hv.1
  subst hsz
  have hN := hv.2.2
  have hE := mP_E hv
  have hx := B.exec
  have hb := B.bytes
  have hr := B.returns
  have hts := atoms_spec (ws := wsL_comes) B.pre
  have hown : s.vm.findClass RL = some m.cls := findClass_of_methodNamed B.named
  have hlocks := B.notSynchronized
  have htab : c.exceptionTable.toList = tableOf [(0, 18, 21, 19), (0, 18, 25, 21)] := vx_table (x := yL_comes) B (hts _ List.mem_cons_self)
  have hl := lv_entry ([.ref (ad 0), .int (nI d), .int (nI t9), .int (nI a1), .int (nI a2), .int (nI a3), .int x, .ref (ad 12)]) (n := 9) (Nat.le_of_ble_eq_true rfl)
  rw [lg_entry_eq]
  generalize (lg_sl ([.ref (ad 0), .int (nI d), .int (nI t9), .int (nI a1), .int (nI a2), .int (nI a3), .int x, .ref (ad 12)]) ++ List.replicate (9 - (lg_sl ([.ref (ad 0), .int (nI d), .int (nI t9), .int (nI a1), .int (nI a2), .int (nI a3), .int x, .ref (ad 12)])).length) Slot.unset).toArray = ls at hl ⊢
  have hl : lv_has ls 9 [(0, .ref (ad 0)), (1, .int (nI d)), (2, .int (nI t9)), (3, .int (nI a1)), (4, .int (nI a2)), (5, .int (nI a3)), (6, .int x), (7, .ref (ad 12))] := hl
  refine lv_aload hx hb dL_comes_0 (lv_at hl 7 rfl) ?_
  refine lv_iconst (v := nI 0) hx hb dL_comes_2 (by decide) ?_
  refine lv_aload_n hx hb dL_comes_3 rfl (lv_at hl 0 rfl) ?_
  refine lv_iload_n hx hb dL_comes_4 rfl (lv_at hl 1 rfl) ?_
  refine lv_iload_n hx hb dL_comes_5 rfl (lv_at hl 2 rfl) ?_
  refine lv_iload_n hx hb dL_comes_6 rfl (lv_at hl 3 rfl) ?_
  refine lv_iload hx hb dL_comes_7 (lv_at hl 4 rfl) ?_
  refine lv_iload hx hb dL_comes_9 (lv_at hl 5 rfl) ?_
  refine lv_iload hx hb dL_comes_11 (lv_at hl 6 rfl) ?_
  refine mx_caught (vx_runV (As := [.int (nI d), .int (nI t9), .int (nI a1), .int (nI a2), .int (nI a3), .int x]) (rest := [.int (nI 0), .ref (ad 12)]) ⟨hx, hb, hml, hown, hts⟩ (x_X2_comes6 l hst G cy ad n k v o hn hk _ d h_d t9 h_t9 a1 h_a1 a2 h_a2 a3 h_a3 x hbad) (cwV 6 hts gL_comes_X2_comes rfl rfl rfl (by decide +kernel) ⟨Nat.le_of_ble_eq_true rfl, Nat.le_of_ble_eq_true rfl⟩) (mP_V (r := (RX2, TX2, 5)) hN hE S_0 rfl) rfl rfl hl.1 rfl (lv_room (Nat.le_of_ble_eq_true rfl)) dL_comes_13 ⟨Nat.le_of_ble_eq_true rfl, Nat.le_of_ble_eq_true rfl⟩) hE (fun q9 ce H locs hq1 hq2 hq3 hE => ?_)
  refine vx_catch hown [⟨0, 18, 21, 19⟩] ⟨0, 18, 25, 21⟩ [] htab (fun z hz => by rw [List.mem_singleton] at hz; subst hz; exact Or.inr ⟨by decide, "java/lang/IndexOutOfBoundsException", (hts (.classLink RL 19 "java/lang/IndexOutOfBoundsException") (by decide +kernel)), hN.2.2.2.2.2.2 ("java/lang/IllegalArgumentException", "java/lang/IndexOutOfBoundsException") (by decide +kernel)⟩) rfl (by decide) (hts (.classLink RL 21 "java/lang/IllegalArgumentException") (by decide +kernel)) (va_Nw.use rfl (hN.2.1 (.castable "java/lang/IllegalArgumentException" "java/lang/IllegalArgumentException") (by decide +kernel))) hq1 hq2 hq3 ?_
  dsimp only
  refine lv_astore (lv' := [(8, .ref q9), (0, .ref (ad 0)), (1, .int (nI d)), (2, .int (nI t9)), (3, .int (nI a1)), (4, .int (nI a2)), (5, .int (nI a3)), (6, .int x), (7, .ref (ad 12))]) hx hb dL_comes_25 hl (by decide) rfl (fun ls hl => ?_)
  refine lv_iconst (v := nI 2) hx hb dL_comes_27 (by decide) ?_
  exact mx_iret hx hb hr hE hlocks ⟨rfl, rfl⟩ dL_comes_28

set_option maxHeartbeats 4000000 in
set_option maxRecDepth 100000 in
/-- proves of the law -/
theorem c_L_proves (l : Launch) (G : va_G) (cy : Nat → ClassId) (ad : Nat → Nat) (n k : Nat) (v : Nat → Nat → Int32) (o : Nat → Int64) (hn : n ≤ 6) (hk : k ≤ 20) (sz : Nat) (j : Nat) (h_j : j < k) (d t9 : Nat) (hd : d < 16) (ht9 : t9 < 10000) (cu : Nat) (h_cu : cu < n) (hsc : v (400 + j) 0 = nI cu) : mMi l yL_proves wsL_proves ({ frames := 10, cells := 0, slots := 0, locals := 220 }) G cy ad (Sy cy ad n k v o) sz [.ref (ad 0), .int (nI j), .int (nI d), .int (nI t9), .ref (ad 12)] 0 0 (fun (r : Int32) u => r = nI 0 ∧ u = (ad, Sy cy ad n k v (vp_updL o 0 (if mPrf (v (300 + cu)) d (nI t9) 4 = v (400 + j) 1 then (1 : Int64) else 0)))) := by
  refine va_MetW (cc := cL_proves) (maxL := 6) (ret := (some .int)) (hh := [(0, 19, 22, 19), (0, 19, 26, 21)]) (by decide) rfl ?_
  intro p e s m args below meth c s₁ B hml hv
  obtain ⟨rfl, hv⟩ := hv
  have hsz := hv.1
  subst hsz
  have hN := hv.2.2
  have hE := mP_E hv
  have hx := B.exec
  have hb := B.bytes
  have hr := B.returns
  have hts := atoms_spec (ws := wsL_proves) B.pre
  have hown : s.vm.findClass RL = some m.cls := findClass_of_methodNamed B.named
  have hlocks := B.notSynchronized
  have htab : c.exceptionTable.toList = tableOf [(0, 19, 22, 19), (0, 19, 26, 21)] := vx_table (x := yL_proves) B (hts _ List.mem_cons_self)
  have hl := lv_entry ([.ref (ad 0), .int (nI j), .int (nI d), .int (nI t9), .ref (ad 12)]) (n := 6) (Nat.le_of_ble_eq_true rfl)
  rw [lg_entry_eq]
  generalize (lg_sl ([.ref (ad 0), .int (nI j), .int (nI d), .int (nI t9), .ref (ad 12)]) ++ List.replicate (6 - (lg_sl ([.ref (ad 0), .int (nI j), .int (nI d), .int (nI t9), .ref (ad 12)])).length) Slot.unset).toArray = ls at hl ⊢
  have hl : lv_has ls 6 [(0, .ref (ad 0)), (1, .int (nI j)), (2, .int (nI d)), (3, .int (nI t9)), (4, .ref (ad 12))] := hl
  refine lv_aload hx hb dL_proves_0 (lv_at hl 4 rfl) ?_
  refine lv_iconst (v := nI 0) hx hb dL_proves_2 (by decide) ?_
  refine lv_aload_n hx hb dL_proves_3 rfl (lv_at hl 0 rfl) ?_
  refine lv_iload_n hx hb dL_proves_4 rfl (lv_at hl 1 rfl) ?_
  refine lv_iload_n hx hb dL_proves_5 rfl (lv_at hl 2 rfl) ?_
  refine lv_iload_n hx hb dL_proves_6 rfl (lv_at hl 3 rfl) ?_
  refine va_calli (va_runV (As := [.int (nI j), .int (nI d), .int (nI t9)]) (rest := [.int (nI 0), .ref (ad 12)]) ⟨hx, hb, hml, hown, hts⟩ (c_X2_proves l G cy ad n k v o hn hk _ j h_j d t9 hd ht9 cu h_cu hsc) (cwV 3 hts gL_proves_X2_proves rfl rfl rfl (by decide +kernel) ⟨Nat.le_of_ble_eq_true rfl, Nat.le_of_ble_eq_true rfl⟩) (mP_V (r := (RX2, TX2, 5)) hN hE S_0 rfl) rfl rfl hl.1 rfl (lv_room (Nat.le_of_ble_eq_true rfl)) dL_proves_7 ⟨Nat.le_of_ble_eq_true rfl, Nat.le_of_ble_eq_true rfl⟩) hE.2.2.2 (fun q _ h => mE_A hE q h) (mE_A hE) (fun r uq tq H locs ht hvm hw hB hz1 hk1 hS => ?_)
  obtain ⟨rfl, rfl⟩ := hw
  have hE : mE G (mA ad (Sy cy ad n k v o) s.heap.size) s.heap ad (Sy cy ad n k v o) H locs := mE_call hE hB ht hS
  refine lv_if_eq (tgt := 17) hx hb dL_proves_10 (by decide) (fun c1 => ?_) (fun c1 => ?_)
  · skip
    have c1 := mb_0.mp c1
    refine lv_lconst (v := 0) hx hb dL_proves_17 (by decide) ?_
    refine mx_last hx hb hN hE S_12 (j := 0) rfl (by decide) (by decide) dL_proves_18 (fun H locs hE => ?_)
    rw [S_out] at hE
    refine lv_goto (tgt := 30) hx hb dL_proves_19 (by decide) ?_
    refine lv_iconst (v := nI 0) hx hb dL_proves_30 (by decide) ?_
    exact mx_iret hx hb hr hE hlocks ⟨rfl, by rw [if_neg c1]⟩ dL_proves_31
  · skip
    have c1 := Classical.not_not.mp (fun h9 => c1 (mb_0.mpr h9))
    refine lv_lconst (v := 1) hx hb dL_proves_13 (by decide) ?_
    refine lv_goto (tgt := 18) hx hb dL_proves_14 (by decide) ?_
    refine mx_last hx hb hN hE S_12 (j := 0) rfl (by decide) (by decide) dL_proves_18 (fun H locs hE => ?_)
    rw [S_out] at hE
    refine lv_goto (tgt := 30) hx hb dL_proves_19 (by decide) ?_
    refine lv_iconst (v := nI 0) hx hb dL_proves_30 (by decide) ?_
    exact mx_iret hx hb hr hE hlocks ⟨rfl, by rw [if_pos c1]⟩ dL_proves_31

set_option maxHeartbeats 4000000 in
set_option maxRecDepth 100000 in
/-- proves of the law, refused -/
theorem x_L_proves1 (l : Launch) (hst : l.stackTraces = false) (G : va_G) (cy : Nat → ClassId) (ad : Nat → Nat) (n k : Nat) (v : Nat → Nat → Int32) (o : Nat → Int64) (hn : n ≤ 6) (hk : k ≤ 20) (sz : Nat) (x : Int32) (hbad : x < 0 ∨ nI k ≤ x) (y z : Int32) : mMi l yL_proves wsL_proves ({ frames := 10, cells := 1, slots := 6, locals := 220 }) G cy ad (Sy cy ad n k v o) sz [.ref (ad 0), .int x, .int y, .int z, .ref (ad 12)] 1 6 (fun (r : Int32) u => r = nI 1 ∧ u = (ad, Sy cy ad n k v o)) := by
  refine va_MetW (cc := cL_proves) (maxL := 6) (ret := (some .int)) (hh := [(0, 19, 22, 19), (0, 19, 26, 21)]) (by decide) rfl ?_
  intro p e s m args below meth c s₁ B hml hv
  obtain ⟨rfl, hv⟩ := hv
  have hsz := hv.1
  subst hsz
  have hN := hv.2.2
  have hE := mP_E hv
  have hx := B.exec
  have hb := B.bytes
  have hr := B.returns
  have hts := atoms_spec (ws := wsL_proves) B.pre
  have hown : s.vm.findClass RL = some m.cls := findClass_of_methodNamed B.named
  have hlocks := B.notSynchronized
  have htab : c.exceptionTable.toList = tableOf [(0, 19, 22, 19), (0, 19, 26, 21)] := vx_table (x := yL_proves) B (hts _ List.mem_cons_self)
  have hl := lv_entry ([.ref (ad 0), .int x, .int y, .int z, .ref (ad 12)]) (n := 6) (Nat.le_of_ble_eq_true rfl)
  rw [lg_entry_eq]
  generalize (lg_sl ([.ref (ad 0), .int x, .int y, .int z, .ref (ad 12)]) ++ List.replicate (6 - (lg_sl ([.ref (ad 0), .int x, .int y, .int z, .ref (ad 12)])).length) Slot.unset).toArray = ls at hl ⊢
  have hl : lv_has ls 6 [(0, .ref (ad 0)), (1, .int x), (2, .int y), (3, .int z), (4, .ref (ad 12))] := hl
  refine lv_aload hx hb dL_proves_0 (lv_at hl 4 rfl) ?_
  refine lv_iconst (v := nI 0) hx hb dL_proves_2 (by decide) ?_
  refine lv_aload_n hx hb dL_proves_3 rfl (lv_at hl 0 rfl) ?_
  refine lv_iload_n hx hb dL_proves_4 rfl (lv_at hl 1 rfl) ?_
  refine lv_iload_n hx hb dL_proves_5 rfl (lv_at hl 2 rfl) ?_
  refine lv_iload_n hx hb dL_proves_6 rfl (lv_at hl 3 rfl) ?_
  refine mx_caught (vx_runV (As := [.int x, .int y, .int z]) (rest := [.int (nI 0), .ref (ad 12)]) ⟨hx, hb, hml, hown, hts⟩ (x_X2_proves1 l hst G cy ad n k v o hn hk _ x hbad y z) (cwV 3 hts gL_proves_X2_proves rfl rfl rfl (by decide +kernel) ⟨Nat.le_of_ble_eq_true rfl, Nat.le_of_ble_eq_true rfl⟩) (mP_V (r := (RX2, TX2, 5)) hN hE S_0 rfl) rfl rfl hl.1 rfl (lv_room (Nat.le_of_ble_eq_true rfl)) dL_proves_7 ⟨Nat.le_of_ble_eq_true rfl, Nat.le_of_ble_eq_true rfl⟩) hE (fun q9 ce H locs hq1 hq2 hq3 hE => ?_)
  refine vx_catch hown [] ⟨0, 19, 22, 19⟩ [⟨0, 19, 26, 21⟩] htab (fun z hz => absurd hz List.not_mem_nil) rfl (by decide) (hts (.classLink RL 19 "java/lang/IndexOutOfBoundsException") (by decide +kernel)) (va_Nw.use rfl (hN.2.1 (.castable "java/lang/IndexOutOfBoundsException" "java/lang/IndexOutOfBoundsException") (by decide +kernel))) hq1 hq2 hq3 ?_
  dsimp only
  refine lv_astore (lv' := [(5, .ref q9), (0, .ref (ad 0)), (1, .int x), (2, .int y), (3, .int z), (4, .ref (ad 12))]) hx hb dL_proves_22 hl (by decide) rfl (fun ls hl => ?_)
  refine lv_iconst (v := nI 1) hx hb dL_proves_24 (by decide) ?_
  exact mx_iret hx hb hr hE hlocks ⟨rfl, rfl⟩ dL_proves_25

set_option maxHeartbeats 4000000 in
set_option maxRecDepth 100000 in
/-- proves of the law, refused -/
theorem x_L_proves2 (l : Launch) (hst : l.stackTraces = false) (G : va_G) (cy : Nat → ClassId) (ad : Nat → Nat) (n k : Nat) (v : Nat → Nat → Int32) (o : Nat → Int64) (hn : n ≤ 6) (hk : k ≤ 20) (sz : Nat) (j : Nat) (h_j : j < k) (x : Int32) (hbad : x < 0 ∨ nI 16 ≤ x) (z : Int32) : mMi l yL_proves wsL_proves ({ frames := 10, cells := 1, slots := 6, locals := 220 }) G cy ad (Sy cy ad n k v o) sz [.ref (ad 0), .int (nI j), .int x, .int z, .ref (ad 12)] 1 6 (fun (r : Int32) u => r = nI 1 ∧ u = (ad, Sy cy ad n k v o)) := by
  refine va_MetW (cc := cL_proves) (maxL := 6) (ret := (some .int)) (hh := [(0, 19, 22, 19), (0, 19, 26, 21)]) (by decide) rfl ?_
  intro p e s m args below meth c s₁ B hml hv
  obtain ⟨rfl, hv⟩ := hv
  have hsz := hv.1
  subst hsz
  have hN := hv.2.2
  have hE := mP_E hv
  have hx := B.exec
  have hb := B.bytes
  have hr := B.returns
  have hts := atoms_spec (ws := wsL_proves) B.pre
  have hown : s.vm.findClass RL = some m.cls := findClass_of_methodNamed B.named
  have hlocks := B.notSynchronized
  have htab : c.exceptionTable.toList = tableOf [(0, 19, 22, 19), (0, 19, 26, 21)] := vx_table (x := yL_proves) B (hts _ List.mem_cons_self)
  have hl := lv_entry ([.ref (ad 0), .int (nI j), .int x, .int z, .ref (ad 12)]) (n := 6) (Nat.le_of_ble_eq_true rfl)
  rw [lg_entry_eq]
  generalize (lg_sl ([.ref (ad 0), .int (nI j), .int x, .int z, .ref (ad 12)]) ++ List.replicate (6 - (lg_sl ([.ref (ad 0), .int (nI j), .int x, .int z, .ref (ad 12)])).length) Slot.unset).toArray = ls at hl ⊢
  have hl : lv_has ls 6 [(0, .ref (ad 0)), (1, .int (nI j)), (2, .int x), (3, .int z), (4, .ref (ad 12))] := hl
  refine lv_aload hx hb dL_proves_0 (lv_at hl 4 rfl) ?_
  refine lv_iconst (v := nI 0) hx hb dL_proves_2 (by decide) ?_
  refine lv_aload_n hx hb dL_proves_3 rfl (lv_at hl 0 rfl) ?_
  refine lv_iload_n hx hb dL_proves_4 rfl (lv_at hl 1 rfl) ?_
  refine lv_iload_n hx hb dL_proves_5 rfl (lv_at hl 2 rfl) ?_
  refine lv_iload_n hx hb dL_proves_6 rfl (lv_at hl 3 rfl) ?_
  refine mx_caught (vx_runV (As := [.int (nI j), .int x, .int z]) (rest := [.int (nI 0), .ref (ad 12)]) ⟨hx, hb, hml, hown, hts⟩ (x_X2_proves2 l hst G cy ad n k v o hn hk _ j h_j x hbad z) (cwV 3 hts gL_proves_X2_proves rfl rfl rfl (by decide +kernel) ⟨Nat.le_of_ble_eq_true rfl, Nat.le_of_ble_eq_true rfl⟩) (mP_V (r := (RX2, TX2, 5)) hN hE S_0 rfl) rfl rfl hl.1 rfl (lv_room (Nat.le_of_ble_eq_true rfl)) dL_proves_7 ⟨Nat.le_of_ble_eq_true rfl, Nat.le_of_ble_eq_true rfl⟩) hE (fun q9 ce H locs hq1 hq2 hq3 hE => ?_)
  refine vx_catch hown [] ⟨0, 19, 22, 19⟩ [⟨0, 19, 26, 21⟩] htab (fun z hz => absurd hz List.not_mem_nil) rfl (by decide) (hts (.classLink RL 19 "java/lang/IndexOutOfBoundsException") (by decide +kernel)) (va_Nw.use rfl (hN.2.1 (.castable "java/lang/IndexOutOfBoundsException" "java/lang/IndexOutOfBoundsException") (by decide +kernel))) hq1 hq2 hq3 ?_
  dsimp only
  refine lv_astore (lv' := [(5, .ref q9), (0, .ref (ad 0)), (1, .int (nI j)), (2, .int x), (3, .int z), (4, .ref (ad 12))]) hx hb dL_proves_22 hl (by decide) rfl (fun ls hl => ?_)
  refine lv_iconst (v := nI 1) hx hb dL_proves_24 (by decide) ?_
  exact mx_iret hx hb hr hE hlocks ⟨rfl, rfl⟩ dL_proves_25

set_option maxHeartbeats 4000000 in
set_option maxRecDepth 100000 in
/-- proves of the law, refused -/
theorem x_L_proves3 (l : Launch) (hst : l.stackTraces = false) (G : va_G) (cy : Nat → ClassId) (ad : Nat → Nat) (n k : Nat) (v : Nat → Nat → Int32) (o : Nat → Int64) (hn : n ≤ 6) (hk : k ≤ 20) (sz : Nat) (j : Nat) (h_j : j < k) (d : Nat) (hd : d < 16) (x : Int32) (hbad : x < 0 ∨ nI 10000 ≤ x) : mMi l yL_proves wsL_proves ({ frames := 10, cells := 1, slots := 6, locals := 220 }) G cy ad (Sy cy ad n k v o) sz [.ref (ad 0), .int (nI j), .int (nI d), .int x, .ref (ad 12)] 1 6 (fun (r : Int32) u => r = nI 2 ∧ u = (ad, Sy cy ad n k v o)) := by
  refine va_MetW (cc := cL_proves) (maxL := 6) (ret := (some .int)) (hh := [(0, 19, 22, 19), (0, 19, 26, 21)]) (by decide) rfl ?_
  intro p e s m args below meth c s₁ B hml hv
  obtain ⟨rfl, hv⟩ := hv
  have hsz := hv.1
  subst hsz
  have hN := hv.2.2
  have hE := mP_E hv
  have hx := B.exec
  have hb := B.bytes
  have hr := B.returns
  have hts := atoms_spec (ws := wsL_proves) B.pre
  have hown : s.vm.findClass RL = some m.cls := findClass_of_methodNamed B.named
  have hlocks := B.notSynchronized
  have htab : c.exceptionTable.toList = tableOf [(0, 19, 22, 19), (0, 19, 26, 21)] := vx_table (x := yL_proves) B (hts _ List.mem_cons_self)
  have hl := lv_entry ([.ref (ad 0), .int (nI j), .int (nI d), .int x, .ref (ad 12)]) (n := 6) (Nat.le_of_ble_eq_true rfl)
  rw [lg_entry_eq]
  generalize (lg_sl ([.ref (ad 0), .int (nI j), .int (nI d), .int x, .ref (ad 12)]) ++ List.replicate (6 - (lg_sl ([.ref (ad 0), .int (nI j), .int (nI d), .int x, .ref (ad 12)])).length) Slot.unset).toArray = ls at hl ⊢
  have hl : lv_has ls 6 [(0, .ref (ad 0)), (1, .int (nI j)), (2, .int (nI d)), (3, .int x), (4, .ref (ad 12))] := hl
  refine lv_aload hx hb dL_proves_0 (lv_at hl 4 rfl) ?_
  refine lv_iconst (v := nI 0) hx hb dL_proves_2 (by decide) ?_
  refine lv_aload_n hx hb dL_proves_3 rfl (lv_at hl 0 rfl) ?_
  refine lv_iload_n hx hb dL_proves_4 rfl (lv_at hl 1 rfl) ?_
  refine lv_iload_n hx hb dL_proves_5 rfl (lv_at hl 2 rfl) ?_
  refine lv_iload_n hx hb dL_proves_6 rfl (lv_at hl 3 rfl) ?_
  refine mx_caught (vx_runV (As := [.int (nI j), .int (nI d), .int x]) (rest := [.int (nI 0), .ref (ad 12)]) ⟨hx, hb, hml, hown, hts⟩ (x_X2_proves3 l hst G cy ad n k v o hn hk _ j h_j d hd x hbad) (cwV 3 hts gL_proves_X2_proves rfl rfl rfl (by decide +kernel) ⟨Nat.le_of_ble_eq_true rfl, Nat.le_of_ble_eq_true rfl⟩) (mP_V (r := (RX2, TX2, 5)) hN hE S_0 rfl) rfl rfl hl.1 rfl (lv_room (Nat.le_of_ble_eq_true rfl)) dL_proves_7 ⟨Nat.le_of_ble_eq_true rfl, Nat.le_of_ble_eq_true rfl⟩) hE (fun q9 ce H locs hq1 hq2 hq3 hE => ?_)
  refine vx_catch hown [⟨0, 19, 22, 19⟩] ⟨0, 19, 26, 21⟩ [] htab (fun z hz => by rw [List.mem_singleton] at hz; subst hz; exact Or.inr ⟨by decide, "java/lang/IndexOutOfBoundsException", (hts (.classLink RL 19 "java/lang/IndexOutOfBoundsException") (by decide +kernel)), hN.2.2.2.2.2.2 ("java/lang/IllegalArgumentException", "java/lang/IndexOutOfBoundsException") (by decide +kernel)⟩) rfl (by decide) (hts (.classLink RL 21 "java/lang/IllegalArgumentException") (by decide +kernel)) (va_Nw.use rfl (hN.2.1 (.castable "java/lang/IllegalArgumentException" "java/lang/IllegalArgumentException") (by decide +kernel))) hq1 hq2 hq3 ?_
  dsimp only
  refine lv_astore (lv' := [(5, .ref q9), (0, .ref (ad 0)), (1, .int (nI j)), (2, .int (nI d)), (3, .int x), (4, .ref (ad 12))]) hx hb dL_proves_26 hl (by decide) rfl (fun ls hl => ?_)
  refine lv_iconst (v := nI 2) hx hb dL_proves_28 (by decide) ?_
  exact mx_iret hx hb hr hE hlocks ⟨rfl, rfl⟩ dL_proves_29

set_option maxHeartbeats 4000000 in
set_option maxRecDepth 100000 in
/-- differ of the law -/
theorem c_L_differ (l : Launch) (G : va_G) (cy : Nat → ClassId) (ad : Nat → Nat) (n k : Nat) (v : Nat → Nat → Int32) (o : Nat → Int64) (hn : n ≤ 6) (hk : k ≤ 20) (sz : Nat) (a b : Nat) (h_a : a < n) (h_b : b < n) : mMi l yL_differ wsL_differ ({ frames := 11, cells := 0, slots := 0, locals := 260 }) G cy ad (Sy cy ad n k v o) sz [.ref (ad 0), .int (nI a), .int (nI b), .ref (ad 12)] 0 0 (fun (r : Int32) u => r = nI 0 ∧ u = (ad, Sy cy ad n k v (vp_updL o 0 (nI (mDr (mLook (v (300 + a)) (v (300 + b)) 15) (v (300 + a)) (v (300 + b)) 16)).toInt64))) := by
  refine va_MetW (cc := cL_differ) (maxL := 5) (ret := (some .int)) (hh := [(0, 10, 13, 19)]) (by decide) rfl ?_
  intro p e s m args below meth c s₁ B hml hv
  obtain ⟨rfl, hv⟩ := hv
  have hsz := hv.1
  subst hsz
  have hN := hv.2.2
  have hE := mP_E hv
  have hx := B.exec
  have hb := B.bytes
  have hr := B.returns
  have hts := atoms_spec (ws := wsL_differ) B.pre
  have hown : s.vm.findClass RL = some m.cls := findClass_of_methodNamed B.named
  have hlocks := B.notSynchronized
  have htab : c.exceptionTable.toList = tableOf [(0, 10, 13, 19)] := vx_table (x := yL_differ) B (hts _ List.mem_cons_self)
  have hl := lv_entry ([.ref (ad 0), .int (nI a), .int (nI b), .ref (ad 12)]) (n := 5) (Nat.le_of_ble_eq_true rfl)
  rw [lg_entry_eq]
  generalize (lg_sl ([.ref (ad 0), .int (nI a), .int (nI b), .ref (ad 12)]) ++ List.replicate (5 - (lg_sl ([.ref (ad 0), .int (nI a), .int (nI b), .ref (ad 12)])).length) Slot.unset).toArray = ls at hl ⊢
  have hl : lv_has ls 5 [(0, .ref (ad 0)), (1, .int (nI a)), (2, .int (nI b)), (3, .ref (ad 12))] := hl
  refine lv_aload_n hx hb dL_differ_0 rfl (lv_at hl 3 rfl) ?_
  refine lv_iconst (v := nI 0) hx hb dL_differ_1 (by decide) ?_
  refine lv_aload_n hx hb dL_differ_2 rfl (lv_at hl 0 rfl) ?_
  refine lv_iload_n hx hb dL_differ_3 rfl (lv_at hl 1 rfl) ?_
  refine lv_iload_n hx hb dL_differ_4 rfl (lv_at hl 2 rfl) ?_
  refine va_calli (va_runV (As := [.int (nI a), .int (nI b)]) (rest := [.int (nI 0), .ref (ad 12)]) ⟨hx, hb, hml, hown, hts⟩ (c_X2_differ l G cy ad n k v o hn hk _ a b h_a h_b) (cwV 2 hts gL_differ_X2_differ rfl rfl rfl (by decide +kernel) ⟨Nat.le_of_ble_eq_true rfl, Nat.le_of_ble_eq_true rfl⟩) (mP_V (r := (RX2, TX2, 5)) hN hE S_0 rfl) rfl rfl hl.1 rfl (lv_room (Nat.le_of_ble_eq_true rfl)) dL_differ_5 ⟨Nat.le_of_ble_eq_true rfl, Nat.le_of_ble_eq_true rfl⟩) hE.2.2.2 (fun q _ h => mE_A hE q h) (mE_A hE) (fun r uq tq H locs ht hvm hw hB hz1 hk1 hS => ?_)
  obtain ⟨rfl, rfl⟩ := hw
  have hE : mE G (mA ad (Sy cy ad n k v o) s.heap.size) s.heap ad (Sy cy ad n k v o) H locs := mE_call hE hB ht hS
  refine lv_i2l hx hb dL_differ_8 rfl ?_
  refine mx_last hx hb hN hE S_12 (j := 0) rfl (by decide) (by decide) dL_differ_9 (fun H locs hE => ?_)
  rw [S_out] at hE
  refine lv_goto (tgt := 17) hx hb dL_differ_10 (by decide) ?_
  refine lv_iconst (v := nI 0) hx hb dL_differ_17 (by decide) ?_
  exact mx_iret hx hb hr hE hlocks ⟨rfl, rfl⟩ dL_differ_18

set_option maxHeartbeats 4000000 in
set_option maxRecDepth 100000 in
/-- differ of the law, refused -/
theorem x_L_differ1 (l : Launch) (hst : l.stackTraces = false) (G : va_G) (cy : Nat → ClassId) (ad : Nat → Nat) (n k : Nat) (v : Nat → Nat → Int32) (o : Nat → Int64) (hn : n ≤ 6) (hk : k ≤ 20) (sz : Nat) (x : Int32) (hbad : x < 0 ∨ nI n ≤ x) (y : Int32) : mMi l yL_differ wsL_differ ({ frames := 11, cells := 1, slots := 6, locals := 260 }) G cy ad (Sy cy ad n k v o) sz [.ref (ad 0), .int x, .int y, .ref (ad 12)] 1 6 (fun (r : Int32) u => r = nI 1 ∧ u = (ad, Sy cy ad n k v o)) := by
  refine va_MetW (cc := cL_differ) (maxL := 5) (ret := (some .int)) (hh := [(0, 10, 13, 19)]) (by decide) rfl ?_
  intro p e s m args below meth c s₁ B hml hv
  obtain ⟨rfl, hv⟩ := hv
  have hsz := hv.1
  subst hsz
  have hN := hv.2.2
  have hE := mP_E hv
  have hx := B.exec
  have hb := B.bytes
  have hr := B.returns
  have hts := atoms_spec (ws := wsL_differ) B.pre
  have hown : s.vm.findClass RL = some m.cls := findClass_of_methodNamed B.named
  have hlocks := B.notSynchronized
  have htab : c.exceptionTable.toList = tableOf [(0, 10, 13, 19)] := vx_table (x := yL_differ) B (hts _ List.mem_cons_self)
  have hl := lv_entry ([.ref (ad 0), .int x, .int y, .ref (ad 12)]) (n := 5) (Nat.le_of_ble_eq_true rfl)
  rw [lg_entry_eq]
  generalize (lg_sl ([.ref (ad 0), .int x, .int y, .ref (ad 12)]) ++ List.replicate (5 - (lg_sl ([.ref (ad 0), .int x, .int y, .ref (ad 12)])).length) Slot.unset).toArray = ls at hl ⊢
  have hl : lv_has ls 5 [(0, .ref (ad 0)), (1, .int x), (2, .int y), (3, .ref (ad 12))] := hl
  refine lv_aload_n hx hb dL_differ_0 rfl (lv_at hl 3 rfl) ?_
  refine lv_iconst (v := nI 0) hx hb dL_differ_1 (by decide) ?_
  refine lv_aload_n hx hb dL_differ_2 rfl (lv_at hl 0 rfl) ?_
  refine lv_iload_n hx hb dL_differ_3 rfl (lv_at hl 1 rfl) ?_
  refine lv_iload_n hx hb dL_differ_4 rfl (lv_at hl 2 rfl) ?_
  refine mx_caught (vx_runV (As := [.int x, .int y]) (rest := [.int (nI 0), .ref (ad 12)]) ⟨hx, hb, hml, hown, hts⟩ (x_X2_differ1 l hst G cy ad n k v o hn hk _ x hbad y) (cwV 2 hts gL_differ_X2_differ rfl rfl rfl (by decide +kernel) ⟨Nat.le_of_ble_eq_true rfl, Nat.le_of_ble_eq_true rfl⟩) (mP_V (r := (RX2, TX2, 5)) hN hE S_0 rfl) rfl rfl hl.1 rfl (lv_room (Nat.le_of_ble_eq_true rfl)) dL_differ_5 ⟨Nat.le_of_ble_eq_true rfl, Nat.le_of_ble_eq_true rfl⟩) hE (fun q9 ce H locs hq1 hq2 hq3 hE => ?_)
  refine vx_catch hown [] ⟨0, 10, 13, 19⟩ [] htab (fun z hz => absurd hz List.not_mem_nil) rfl (by decide) (hts (.classLink RL 19 "java/lang/IndexOutOfBoundsException") (by decide +kernel)) (va_Nw.use rfl (hN.2.1 (.castable "java/lang/IndexOutOfBoundsException" "java/lang/IndexOutOfBoundsException") (by decide +kernel))) hq1 hq2 hq3 ?_
  dsimp only
  refine lv_astore (lv' := [(4, .ref q9), (0, .ref (ad 0)), (1, .int x), (2, .int y), (3, .ref (ad 12))]) hx hb dL_differ_13 hl (by decide) rfl (fun ls hl => ?_)
  refine lv_iconst (v := nI 1) hx hb dL_differ_15 (by decide) ?_
  exact mx_iret hx hb hr hE hlocks ⟨rfl, rfl⟩ dL_differ_16

set_option maxHeartbeats 4000000 in
set_option maxRecDepth 100000 in
/-- differ of the law, refused -/
theorem x_L_differ2 (l : Launch) (hst : l.stackTraces = false) (G : va_G) (cy : Nat → ClassId) (ad : Nat → Nat) (n k : Nat) (v : Nat → Nat → Int32) (o : Nat → Int64) (hn : n ≤ 6) (hk : k ≤ 20) (sz : Nat) (i : Nat) (h_i : i < n) (x : Int32) (hbad : x < 0 ∨ nI n ≤ x) : mMi l yL_differ wsL_differ ({ frames := 11, cells := 1, slots := 6, locals := 260 }) G cy ad (Sy cy ad n k v o) sz [.ref (ad 0), .int (nI i), .int x, .ref (ad 12)] 1 6 (fun (r : Int32) u => r = nI 1 ∧ u = (ad, Sy cy ad n k v o)) := by
  refine va_MetW (cc := cL_differ) (maxL := 5) (ret := (some .int)) (hh := [(0, 10, 13, 19)]) (by decide) rfl ?_
  intro p e s m args below meth c s₁ B hml hv
  obtain ⟨rfl, hv⟩ := hv
  have hsz := hv.1
  subst hsz
  have hN := hv.2.2
  have hE := mP_E hv
  have hx := B.exec
  have hb := B.bytes
  have hr := B.returns
  have hts := atoms_spec (ws := wsL_differ) B.pre
  have hown : s.vm.findClass RL = some m.cls := findClass_of_methodNamed B.named
  have hlocks := B.notSynchronized
  have htab : c.exceptionTable.toList = tableOf [(0, 10, 13, 19)] := vx_table (x := yL_differ) B (hts _ List.mem_cons_self)
  have hl := lv_entry ([.ref (ad 0), .int (nI i), .int x, .ref (ad 12)]) (n := 5) (Nat.le_of_ble_eq_true rfl)
  rw [lg_entry_eq]
  generalize (lg_sl ([.ref (ad 0), .int (nI i), .int x, .ref (ad 12)]) ++ List.replicate (5 - (lg_sl ([.ref (ad 0), .int (nI i), .int x, .ref (ad 12)])).length) Slot.unset).toArray = ls at hl ⊢
  have hl : lv_has ls 5 [(0, .ref (ad 0)), (1, .int (nI i)), (2, .int x), (3, .ref (ad 12))] := hl
  refine lv_aload_n hx hb dL_differ_0 rfl (lv_at hl 3 rfl) ?_
  refine lv_iconst (v := nI 0) hx hb dL_differ_1 (by decide) ?_
  refine lv_aload_n hx hb dL_differ_2 rfl (lv_at hl 0 rfl) ?_
  refine lv_iload_n hx hb dL_differ_3 rfl (lv_at hl 1 rfl) ?_
  refine lv_iload_n hx hb dL_differ_4 rfl (lv_at hl 2 rfl) ?_
  refine mx_caught (vx_runV (As := [.int (nI i), .int x]) (rest := [.int (nI 0), .ref (ad 12)]) ⟨hx, hb, hml, hown, hts⟩ (x_X2_differ2 l hst G cy ad n k v o hn hk _ i h_i x hbad) (cwV 2 hts gL_differ_X2_differ rfl rfl rfl (by decide +kernel) ⟨Nat.le_of_ble_eq_true rfl, Nat.le_of_ble_eq_true rfl⟩) (mP_V (r := (RX2, TX2, 5)) hN hE S_0 rfl) rfl rfl hl.1 rfl (lv_room (Nat.le_of_ble_eq_true rfl)) dL_differ_5 ⟨Nat.le_of_ble_eq_true rfl, Nat.le_of_ble_eq_true rfl⟩) hE (fun q9 ce H locs hq1 hq2 hq3 hE => ?_)
  refine vx_catch hown [] ⟨0, 10, 13, 19⟩ [] htab (fun z hz => absurd hz List.not_mem_nil) rfl (by decide) (hts (.classLink RL 19 "java/lang/IndexOutOfBoundsException") (by decide +kernel)) (va_Nw.use rfl (hN.2.1 (.castable "java/lang/IndexOutOfBoundsException" "java/lang/IndexOutOfBoundsException") (by decide +kernel))) hq1 hq2 hq3 ?_
  dsimp only
  refine lv_astore (lv' := [(4, .ref q9), (0, .ref (ad 0)), (1, .int (nI i)), (2, .int x), (3, .ref (ad 12))]) hx hb dL_differ_13 hl (by decide) rfl (fun ls hl => ?_)
  refine lv_iconst (v := nI 1) hx hb dL_differ_15 (by decide) ?_
  exact mx_iret hx hb hr hE hlocks ⟨rfl, rfl⟩ dL_differ_16

set_option maxHeartbeats 4000000 in
set_option maxRecDepth 100000 in
/-- looks of the law -/
theorem c_L_looks (l : Launch) (G : va_G) (cy : Nat → ClassId) (ad : Nat → Nat) (n k : Nat) (v : Nat → Nat → Int32) (o : Nat → Int64) (hn : n ≤ 6) (hk : k ≤ 20) (sz : Nat) (a b : Nat) (h_a : a < n) (h_b : b < n) : mMi l yL_looks wsL_looks ({ frames := 10, cells := 0, slots := 0, locals := 220 }) G cy ad (Sy cy ad n k v o) sz [.ref (ad 0), .int (nI a), .int (nI b), .ref (ad 12)] 0 0 (fun (r : Int32) u => r = nI 0 ∧ u = (ad, Sy cy ad n k v (vp_updL o 0 (mBc (nI (mLook (v (300 + a)) (v (300 + b)) 15))).toInt64))) := by
  refine va_MetW (cc := cL_looks) (maxL := 5) (ret := (some .int)) (hh := [(0, 10, 13, 19)]) (by decide) rfl ?_
  intro p e s m args below meth c s₁ B hml hv
  obtain ⟨rfl, hv⟩ := hv
  have hsz := hv.1
  subst hsz
  have hN := hv.2.2
  have hE := mP_E hv
  have hx := B.exec
  have hb := B.bytes
  have hr := B.returns
  have hts := atoms_spec (ws := wsL_looks) B.pre
  have hown : s.vm.findClass RL = some m.cls := findClass_of_methodNamed B.named
  have hlocks := B.notSynchronized
  have htab : c.exceptionTable.toList = tableOf [(0, 10, 13, 19)] := vx_table (x := yL_looks) B (hts _ List.mem_cons_self)
  have hl := lv_entry ([.ref (ad 0), .int (nI a), .int (nI b), .ref (ad 12)]) (n := 5) (Nat.le_of_ble_eq_true rfl)
  rw [lg_entry_eq]
  generalize (lg_sl ([.ref (ad 0), .int (nI a), .int (nI b), .ref (ad 12)]) ++ List.replicate (5 - (lg_sl ([.ref (ad 0), .int (nI a), .int (nI b), .ref (ad 12)])).length) Slot.unset).toArray = ls at hl ⊢
  have hl : lv_has ls 5 [(0, .ref (ad 0)), (1, .int (nI a)), (2, .int (nI b)), (3, .ref (ad 12))] := hl
  refine lv_aload_n hx hb dL_looks_0 rfl (lv_at hl 3 rfl) ?_
  refine lv_iconst (v := nI 0) hx hb dL_looks_1 (by decide) ?_
  refine lv_aload_n hx hb dL_looks_2 rfl (lv_at hl 0 rfl) ?_
  refine lv_iload_n hx hb dL_looks_3 rfl (lv_at hl 1 rfl) ?_
  refine lv_iload_n hx hb dL_looks_4 rfl (lv_at hl 2 rfl) ?_
  refine va_calli (va_runV (As := [.int (nI a), .int (nI b)]) (rest := [.int (nI 0), .ref (ad 12)]) ⟨hx, hb, hml, hown, hts⟩ (c_X2_looks l G cy ad n k v o hn hk _ a b h_a h_b) (cwV 2 hts gL_looks_X2_looks rfl rfl rfl (by decide +kernel) ⟨Nat.le_of_ble_eq_true rfl, Nat.le_of_ble_eq_true rfl⟩) (mP_V (r := (RX2, TX2, 5)) hN hE S_0 rfl) rfl rfl hl.1 rfl (lv_room (Nat.le_of_ble_eq_true rfl)) dL_looks_5 ⟨Nat.le_of_ble_eq_true rfl, Nat.le_of_ble_eq_true rfl⟩) hE.2.2.2 (fun q _ h => mE_A hE q h) (mE_A hE) (fun r uq tq H locs ht hvm hw hB hz1 hk1 hS => ?_)
  obtain ⟨rfl, rfl⟩ := hw
  have hE : mE G (mA ad (Sy cy ad n k v o) s.heap.size) s.heap ad (Sy cy ad n k v o) H locs := mE_call hE hB ht hS
  refine lv_i2l hx hb dL_looks_8 rfl ?_
  refine mx_last hx hb hN hE S_12 (j := 0) rfl (by decide) (by decide) dL_looks_9 (fun H locs hE => ?_)
  rw [S_out] at hE
  refine lv_goto (tgt := 17) hx hb dL_looks_10 (by decide) ?_
  refine lv_iconst (v := nI 0) hx hb dL_looks_17 (by decide) ?_
  exact mx_iret hx hb hr hE hlocks ⟨rfl, rfl⟩ dL_looks_18

set_option maxHeartbeats 4000000 in
set_option maxRecDepth 100000 in
/-- looks of the law, refused -/
theorem x_L_looks1 (l : Launch) (hst : l.stackTraces = false) (G : va_G) (cy : Nat → ClassId) (ad : Nat → Nat) (n k : Nat) (v : Nat → Nat → Int32) (o : Nat → Int64) (hn : n ≤ 6) (hk : k ≤ 20) (sz : Nat) (x : Int32) (hbad : x < 0 ∨ nI n ≤ x) (y : Int32) : mMi l yL_looks wsL_looks ({ frames := 10, cells := 1, slots := 6, locals := 220 }) G cy ad (Sy cy ad n k v o) sz [.ref (ad 0), .int x, .int y, .ref (ad 12)] 1 6 (fun (r : Int32) u => r = nI 1 ∧ u = (ad, Sy cy ad n k v o)) := by
  refine va_MetW (cc := cL_looks) (maxL := 5) (ret := (some .int)) (hh := [(0, 10, 13, 19)]) (by decide) rfl ?_
  intro p e s m args below meth c s₁ B hml hv
  obtain ⟨rfl, hv⟩ := hv
  have hsz := hv.1
  subst hsz
  have hN := hv.2.2
  have hE := mP_E hv
  have hx := B.exec
  have hb := B.bytes
  have hr := B.returns
  have hts := atoms_spec (ws := wsL_looks) B.pre
  have hown : s.vm.findClass RL = some m.cls := findClass_of_methodNamed B.named
  have hlocks := B.notSynchronized
  have htab : c.exceptionTable.toList = tableOf [(0, 10, 13, 19)] := vx_table (x := yL_looks) B (hts _ List.mem_cons_self)
  have hl := lv_entry ([.ref (ad 0), .int x, .int y, .ref (ad 12)]) (n := 5) (Nat.le_of_ble_eq_true rfl)
  rw [lg_entry_eq]
  generalize (lg_sl ([.ref (ad 0), .int x, .int y, .ref (ad 12)]) ++ List.replicate (5 - (lg_sl ([.ref (ad 0), .int x, .int y, .ref (ad 12)])).length) Slot.unset).toArray = ls at hl ⊢
  have hl : lv_has ls 5 [(0, .ref (ad 0)), (1, .int x), (2, .int y), (3, .ref (ad 12))] := hl
  refine lv_aload_n hx hb dL_looks_0 rfl (lv_at hl 3 rfl) ?_
  refine lv_iconst (v := nI 0) hx hb dL_looks_1 (by decide) ?_
  refine lv_aload_n hx hb dL_looks_2 rfl (lv_at hl 0 rfl) ?_
  refine lv_iload_n hx hb dL_looks_3 rfl (lv_at hl 1 rfl) ?_
  refine lv_iload_n hx hb dL_looks_4 rfl (lv_at hl 2 rfl) ?_
  refine mx_caught (vx_runV (As := [.int x, .int y]) (rest := [.int (nI 0), .ref (ad 12)]) ⟨hx, hb, hml, hown, hts⟩ (x_X2_looks1 l hst G cy ad n k v o hn hk _ x hbad y) (cwV 2 hts gL_looks_X2_looks rfl rfl rfl (by decide +kernel) ⟨Nat.le_of_ble_eq_true rfl, Nat.le_of_ble_eq_true rfl⟩) (mP_V (r := (RX2, TX2, 5)) hN hE S_0 rfl) rfl rfl hl.1 rfl (lv_room (Nat.le_of_ble_eq_true rfl)) dL_looks_5 ⟨Nat.le_of_ble_eq_true rfl, Nat.le_of_ble_eq_true rfl⟩) hE (fun q9 ce H locs hq1 hq2 hq3 hE => ?_)
  refine vx_catch hown [] ⟨0, 10, 13, 19⟩ [] htab (fun z hz => absurd hz List.not_mem_nil) rfl (by decide) (hts (.classLink RL 19 "java/lang/IndexOutOfBoundsException") (by decide +kernel)) (va_Nw.use rfl (hN.2.1 (.castable "java/lang/IndexOutOfBoundsException" "java/lang/IndexOutOfBoundsException") (by decide +kernel))) hq1 hq2 hq3 ?_
  dsimp only
  refine lv_astore (lv' := [(4, .ref q9), (0, .ref (ad 0)), (1, .int x), (2, .int y), (3, .ref (ad 12))]) hx hb dL_looks_13 hl (by decide) rfl (fun ls hl => ?_)
  refine lv_iconst (v := nI 1) hx hb dL_looks_15 (by decide) ?_
  exact mx_iret hx hb hr hE hlocks ⟨rfl, rfl⟩ dL_looks_16

set_option maxHeartbeats 4000000 in
set_option maxRecDepth 100000 in
/-- looks of the law, refused -/
theorem x_L_looks2 (l : Launch) (hst : l.stackTraces = false) (G : va_G) (cy : Nat → ClassId) (ad : Nat → Nat) (n k : Nat) (v : Nat → Nat → Int32) (o : Nat → Int64) (hn : n ≤ 6) (hk : k ≤ 20) (sz : Nat) (i : Nat) (h_i : i < n) (x : Int32) (hbad : x < 0 ∨ nI n ≤ x) : mMi l yL_looks wsL_looks ({ frames := 10, cells := 1, slots := 6, locals := 220 }) G cy ad (Sy cy ad n k v o) sz [.ref (ad 0), .int (nI i), .int x, .ref (ad 12)] 1 6 (fun (r : Int32) u => r = nI 1 ∧ u = (ad, Sy cy ad n k v o)) := by
  refine va_MetW (cc := cL_looks) (maxL := 5) (ret := (some .int)) (hh := [(0, 10, 13, 19)]) (by decide) rfl ?_
  intro p e s m args below meth c s₁ B hml hv
  obtain ⟨rfl, hv⟩ := hv
  have hsz := hv.1
  subst hsz
  have hN := hv.2.2
  have hE := mP_E hv
  have hx := B.exec
  have hb := B.bytes
  have hr := B.returns
  have hts := atoms_spec (ws := wsL_looks) B.pre
  have hown : s.vm.findClass RL = some m.cls := findClass_of_methodNamed B.named
  have hlocks := B.notSynchronized
  have htab : c.exceptionTable.toList = tableOf [(0, 10, 13, 19)] := vx_table (x := yL_looks) B (hts _ List.mem_cons_self)
  have hl := lv_entry ([.ref (ad 0), .int (nI i), .int x, .ref (ad 12)]) (n := 5) (Nat.le_of_ble_eq_true rfl)
  rw [lg_entry_eq]
  generalize (lg_sl ([.ref (ad 0), .int (nI i), .int x, .ref (ad 12)]) ++ List.replicate (5 - (lg_sl ([.ref (ad 0), .int (nI i), .int x, .ref (ad 12)])).length) Slot.unset).toArray = ls at hl ⊢
  have hl : lv_has ls 5 [(0, .ref (ad 0)), (1, .int (nI i)), (2, .int x), (3, .ref (ad 12))] := hl
  refine lv_aload_n hx hb dL_looks_0 rfl (lv_at hl 3 rfl) ?_
  refine lv_iconst (v := nI 0) hx hb dL_looks_1 (by decide) ?_
  refine lv_aload_n hx hb dL_looks_2 rfl (lv_at hl 0 rfl) ?_
  refine lv_iload_n hx hb dL_looks_3 rfl (lv_at hl 1 rfl) ?_
  refine lv_iload_n hx hb dL_looks_4 rfl (lv_at hl 2 rfl) ?_
  refine mx_caught (vx_runV (As := [.int (nI i), .int x]) (rest := [.int (nI 0), .ref (ad 12)]) ⟨hx, hb, hml, hown, hts⟩ (x_X2_looks2 l hst G cy ad n k v o hn hk _ i h_i x hbad) (cwV 2 hts gL_looks_X2_looks rfl rfl rfl (by decide +kernel) ⟨Nat.le_of_ble_eq_true rfl, Nat.le_of_ble_eq_true rfl⟩) (mP_V (r := (RX2, TX2, 5)) hN hE S_0 rfl) rfl rfl hl.1 rfl (lv_room (Nat.le_of_ble_eq_true rfl)) dL_looks_5 ⟨Nat.le_of_ble_eq_true rfl, Nat.le_of_ble_eq_true rfl⟩) hE (fun q9 ce H locs hq1 hq2 hq3 hE => ?_)
  refine vx_catch hown [] ⟨0, 10, 13, 19⟩ [] htab (fun z hz => absurd hz List.not_mem_nil) rfl (by decide) (hts (.classLink RL 19 "java/lang/IndexOutOfBoundsException") (by decide +kernel)) (va_Nw.use rfl (hN.2.1 (.castable "java/lang/IndexOutOfBoundsException" "java/lang/IndexOutOfBoundsException") (by decide +kernel))) hq1 hq2 hq3 ?_
  dsimp only
  refine lv_astore (lv' := [(4, .ref q9), (0, .ref (ad 0)), (1, .int (nI i)), (2, .int x), (3, .ref (ad 12))]) hx hb dL_looks_13 hl (by decide) rfl (fun ls hl => ?_)
  refine lv_iconst (v := nI 1) hx hb dL_looks_15 (by decide) ?_
  exact mx_iret hx hb hr hE hlocks ⟨rfl, rfl⟩ dL_looks_16

set_option maxHeartbeats 4000000 in
set_option maxRecDepth 100000 in
/-- mend of the law -/
theorem c_L_mend (l : Launch) (G : va_G) (cy : Nat → ClassId) (ad : Nat → Nat) (n k : Nat) (v : Nat → Nat → Int32) (o : Nat → Int64) (hn : n ≤ 6) (hk : k ≤ 20) (sz : Nat) (a b : Nat) (h_a : a < n) (h_b : b < n) : mMi l yL_mend wsL_mend ({ frames := 11, cells := 0, slots := 0, locals := 260 }) G cy ad (Sy cy ad n k v o) sz [.ref (ad 0), .int (nI a), .int (nI b), .ref (ad 12)] 0 0 (fun (r : Int32) u => r = nI 0 ∧ u = (ad, Sy cy ad n k (mMend v a b (mDr (mLook (v (300 + a)) (v (300 + b)) 15) (v (300 + a)) (v (300 + b)) 16) 16) (vp_updL o 0 (mBc (nI (mDr (mLook (v (300 + a)) (v (300 + b)) 15) (v (300 + a)) (v (300 + b)) 16))).toInt64))) := by
  refine va_MetW (cc := cL_mend) (maxL := 5) (ret := (some .int)) (hh := [(0, 10, 13, 19)]) (by decide) rfl ?_
  intro p e s m args below meth c s₁ B hml hv
  obtain ⟨rfl, hv⟩ := hv
  have hsz := hv.1
  subst hsz
  have hN := hv.2.2
  have hE := mP_E hv
  have hx := B.exec
  have hb := B.bytes
  have hr := B.returns
  have hts := atoms_spec (ws := wsL_mend) B.pre
  have hown : s.vm.findClass RL = some m.cls := findClass_of_methodNamed B.named
  have hlocks := B.notSynchronized
  have htab : c.exceptionTable.toList = tableOf [(0, 10, 13, 19)] := vx_table (x := yL_mend) B (hts _ List.mem_cons_self)
  have hl := lv_entry ([.ref (ad 0), .int (nI a), .int (nI b), .ref (ad 12)]) (n := 5) (Nat.le_of_ble_eq_true rfl)
  rw [lg_entry_eq]
  generalize (lg_sl ([.ref (ad 0), .int (nI a), .int (nI b), .ref (ad 12)]) ++ List.replicate (5 - (lg_sl ([.ref (ad 0), .int (nI a), .int (nI b), .ref (ad 12)])).length) Slot.unset).toArray = ls at hl ⊢
  have hl : lv_has ls 5 [(0, .ref (ad 0)), (1, .int (nI a)), (2, .int (nI b)), (3, .ref (ad 12))] := hl
  refine lv_aload_n hx hb dL_mend_0 rfl (lv_at hl 3 rfl) ?_
  refine lv_iconst (v := nI 0) hx hb dL_mend_1 (by decide) ?_
  refine lv_aload_n hx hb dL_mend_2 rfl (lv_at hl 0 rfl) ?_
  refine lv_iload_n hx hb dL_mend_3 rfl (lv_at hl 1 rfl) ?_
  refine lv_iload_n hx hb dL_mend_4 rfl (lv_at hl 2 rfl) ?_
  refine va_calli (va_runV (As := [.int (nI a), .int (nI b)]) (rest := [.int (nI 0), .ref (ad 12)]) ⟨hx, hb, hml, hown, hts⟩ (c_X2_mend l G cy ad n k v o hn hk _ a b h_a h_b) (cwV 2 hts gL_mend_X2_mend rfl rfl rfl (by decide +kernel) ⟨Nat.le_of_ble_eq_true rfl, Nat.le_of_ble_eq_true rfl⟩) (mP_V (r := (RX2, TX2, 5)) hN hE S_0 rfl) rfl rfl hl.1 rfl (lv_room (Nat.le_of_ble_eq_true rfl)) dL_mend_5 ⟨Nat.le_of_ble_eq_true rfl, Nat.le_of_ble_eq_true rfl⟩) hE.2.2.2 (fun q _ h => mE_A hE q h) (mE_A hE) (fun r uq tq H locs ht hvm hw hB hz1 hk1 hS => ?_)
  obtain ⟨rfl, rfl⟩ := hw
  have hE : mE G (mA ad (Sy cy ad n k v o) s.heap.size) s.heap ad (Sy cy ad n k (mMend v a b (mDr (mLook (v (300 + a)) (v (300 + b)) 15) (v (300 + a)) (v (300 + b)) 16) 16) o) H locs := mE_call hE hB ht hS
  refine lv_i2l hx hb dL_mend_8 rfl ?_
  refine mx_last hx hb hN hE S_12 (j := 0) rfl (by decide) (by decide) dL_mend_9 (fun H locs hE => ?_)
  rw [S_out] at hE
  refine lv_goto (tgt := 17) hx hb dL_mend_10 (by decide) ?_
  refine lv_iconst (v := nI 0) hx hb dL_mend_17 (by decide) ?_
  exact mx_iret hx hb hr hE hlocks ⟨rfl, rfl⟩ dL_mend_18

set_option maxHeartbeats 4000000 in
set_option maxRecDepth 100000 in
/-- mend of the law, refused -/
theorem x_L_mend1 (l : Launch) (hst : l.stackTraces = false) (G : va_G) (cy : Nat → ClassId) (ad : Nat → Nat) (n k : Nat) (v : Nat → Nat → Int32) (o : Nat → Int64) (hn : n ≤ 6) (hk : k ≤ 20) (sz : Nat) (x : Int32) (hbad : x < 0 ∨ nI n ≤ x) (y : Int32) : mMi l yL_mend wsL_mend ({ frames := 11, cells := 1, slots := 6, locals := 260 }) G cy ad (Sy cy ad n k v o) sz [.ref (ad 0), .int x, .int y, .ref (ad 12)] 1 6 (fun (r : Int32) u => r = nI 1 ∧ u = (ad, Sy cy ad n k v o)) := by
  refine va_MetW (cc := cL_mend) (maxL := 5) (ret := (some .int)) (hh := [(0, 10, 13, 19)]) (by decide) rfl ?_
  intro p e s m args below meth c s₁ B hml hv
  obtain ⟨rfl, hv⟩ := hv
  have hsz := hv.1
  subst hsz
  have hN := hv.2.2
  have hE := mP_E hv
  have hx := B.exec
  have hb := B.bytes
  have hr := B.returns
  have hts := atoms_spec (ws := wsL_mend) B.pre
  have hown : s.vm.findClass RL = some m.cls := findClass_of_methodNamed B.named
  have hlocks := B.notSynchronized
  have htab : c.exceptionTable.toList = tableOf [(0, 10, 13, 19)] := vx_table (x := yL_mend) B (hts _ List.mem_cons_self)
  have hl := lv_entry ([.ref (ad 0), .int x, .int y, .ref (ad 12)]) (n := 5) (Nat.le_of_ble_eq_true rfl)
  rw [lg_entry_eq]
  generalize (lg_sl ([.ref (ad 0), .int x, .int y, .ref (ad 12)]) ++ List.replicate (5 - (lg_sl ([.ref (ad 0), .int x, .int y, .ref (ad 12)])).length) Slot.unset).toArray = ls at hl ⊢
  have hl : lv_has ls 5 [(0, .ref (ad 0)), (1, .int x), (2, .int y), (3, .ref (ad 12))] := hl
  refine lv_aload_n hx hb dL_mend_0 rfl (lv_at hl 3 rfl) ?_
  refine lv_iconst (v := nI 0) hx hb dL_mend_1 (by decide) ?_
  refine lv_aload_n hx hb dL_mend_2 rfl (lv_at hl 0 rfl) ?_
  refine lv_iload_n hx hb dL_mend_3 rfl (lv_at hl 1 rfl) ?_
  refine lv_iload_n hx hb dL_mend_4 rfl (lv_at hl 2 rfl) ?_
  refine mx_caught (vx_runV (As := [.int x, .int y]) (rest := [.int (nI 0), .ref (ad 12)]) ⟨hx, hb, hml, hown, hts⟩ (x_X2_mend1 l hst G cy ad n k v o hn hk _ x hbad y) (cwV 2 hts gL_mend_X2_mend rfl rfl rfl (by decide +kernel) ⟨Nat.le_of_ble_eq_true rfl, Nat.le_of_ble_eq_true rfl⟩) (mP_V (r := (RX2, TX2, 5)) hN hE S_0 rfl) rfl rfl hl.1 rfl (lv_room (Nat.le_of_ble_eq_true rfl)) dL_mend_5 ⟨Nat.le_of_ble_eq_true rfl, Nat.le_of_ble_eq_true rfl⟩) hE (fun q9 ce H locs hq1 hq2 hq3 hE => ?_)
  refine vx_catch hown [] ⟨0, 10, 13, 19⟩ [] htab (fun z hz => absurd hz List.not_mem_nil) rfl (by decide) (hts (.classLink RL 19 "java/lang/IndexOutOfBoundsException") (by decide +kernel)) (va_Nw.use rfl (hN.2.1 (.castable "java/lang/IndexOutOfBoundsException" "java/lang/IndexOutOfBoundsException") (by decide +kernel))) hq1 hq2 hq3 ?_
  dsimp only
  refine lv_astore (lv' := [(4, .ref q9), (0, .ref (ad 0)), (1, .int x), (2, .int y), (3, .ref (ad 12))]) hx hb dL_mend_13 hl (by decide) rfl (fun ls hl => ?_)
  refine lv_iconst (v := nI 1) hx hb dL_mend_15 (by decide) ?_
  exact mx_iret hx hb hr hE hlocks ⟨rfl, rfl⟩ dL_mend_16

set_option maxHeartbeats 4000000 in
set_option maxRecDepth 100000 in
/-- mend of the law, refused -/
theorem x_L_mend2 (l : Launch) (hst : l.stackTraces = false) (G : va_G) (cy : Nat → ClassId) (ad : Nat → Nat) (n k : Nat) (v : Nat → Nat → Int32) (o : Nat → Int64) (hn : n ≤ 6) (hk : k ≤ 20) (sz : Nat) (i : Nat) (h_i : i < n) (x : Int32) (hbad : x < 0 ∨ nI n ≤ x) : mMi l yL_mend wsL_mend ({ frames := 11, cells := 1, slots := 6, locals := 260 }) G cy ad (Sy cy ad n k v o) sz [.ref (ad 0), .int (nI i), .int x, .ref (ad 12)] 1 6 (fun (r : Int32) u => r = nI 1 ∧ u = (ad, Sy cy ad n k v o)) := by
  refine va_MetW (cc := cL_mend) (maxL := 5) (ret := (some .int)) (hh := [(0, 10, 13, 19)]) (by decide) rfl ?_
  intro p e s m args below meth c s₁ B hml hv
  obtain ⟨rfl, hv⟩ := hv
  have hsz := hv.1
  subst hsz
  have hN := hv.2.2
  have hE := mP_E hv
  have hx := B.exec
  have hb := B.bytes
  have hr := B.returns
  have hts := atoms_spec (ws := wsL_mend) B.pre
  have hown : s.vm.findClass RL = some m.cls := findClass_of_methodNamed B.named
  have hlocks := B.notSynchronized
  have htab : c.exceptionTable.toList = tableOf [(0, 10, 13, 19)] := vx_table (x := yL_mend) B (hts _ List.mem_cons_self)
  have hl := lv_entry ([.ref (ad 0), .int (nI i), .int x, .ref (ad 12)]) (n := 5) (Nat.le_of_ble_eq_true rfl)
  rw [lg_entry_eq]
  generalize (lg_sl ([.ref (ad 0), .int (nI i), .int x, .ref (ad 12)]) ++ List.replicate (5 - (lg_sl ([.ref (ad 0), .int (nI i), .int x, .ref (ad 12)])).length) Slot.unset).toArray = ls at hl ⊢
  have hl : lv_has ls 5 [(0, .ref (ad 0)), (1, .int (nI i)), (2, .int x), (3, .ref (ad 12))] := hl
  refine lv_aload_n hx hb dL_mend_0 rfl (lv_at hl 3 rfl) ?_
  refine lv_iconst (v := nI 0) hx hb dL_mend_1 (by decide) ?_
  refine lv_aload_n hx hb dL_mend_2 rfl (lv_at hl 0 rfl) ?_
  refine lv_iload_n hx hb dL_mend_3 rfl (lv_at hl 1 rfl) ?_
  refine lv_iload_n hx hb dL_mend_4 rfl (lv_at hl 2 rfl) ?_
  refine mx_caught (vx_runV (As := [.int (nI i), .int x]) (rest := [.int (nI 0), .ref (ad 12)]) ⟨hx, hb, hml, hown, hts⟩ (x_X2_mend2 l hst G cy ad n k v o hn hk _ i h_i x hbad) (cwV 2 hts gL_mend_X2_mend rfl rfl rfl (by decide +kernel) ⟨Nat.le_of_ble_eq_true rfl, Nat.le_of_ble_eq_true rfl⟩) (mP_V (r := (RX2, TX2, 5)) hN hE S_0 rfl) rfl rfl hl.1 rfl (lv_room (Nat.le_of_ble_eq_true rfl)) dL_mend_5 ⟨Nat.le_of_ble_eq_true rfl, Nat.le_of_ble_eq_true rfl⟩) hE (fun q9 ce H locs hq1 hq2 hq3 hE => ?_)
  refine vx_catch hown [] ⟨0, 10, 13, 19⟩ [] htab (fun z hz => absurd hz List.not_mem_nil) rfl (by decide) (hts (.classLink RL 19 "java/lang/IndexOutOfBoundsException") (by decide +kernel)) (va_Nw.use rfl (hN.2.1 (.castable "java/lang/IndexOutOfBoundsException" "java/lang/IndexOutOfBoundsException") (by decide +kernel))) hq1 hq2 hq3 ?_
  dsimp only
  refine lv_astore (lv' := [(4, .ref q9), (0, .ref (ad 0)), (1, .int (nI i)), (2, .int x), (3, .ref (ad 12))]) hx hb dL_mend_13 hl (by decide) rfl (fun ls hl => ?_)
  refine lv_iconst (v := nI 1) hx hb dL_mend_15 (by decide) ?_
  exact mx_iret hx hb hr hE hlocks ⟨rfl, rfl⟩ dL_mend_16

set_option maxHeartbeats 4000000 in
set_option maxRecDepth 100000 in
/-- swapped of the law -/
theorem c_L_swapped (l : Launch) (G : va_G) (cy : Nat → ClassId) (ad : Nat → Nat) (n k : Nat) (v : Nat → Nat → Int32) (o : Nat → Int64) (hn : n ≤ 6) (hk : k ≤ 20) (sz : Nat) (j : Nat) (h_j : j < k) (cu : Nat) (h_cu : cu < n) (hsc : v (400 + j) 0 = nI cu) (hcon : mCon (v (300 + cu)) (v (200 + cu))) : mMi l yL_swapped wsL_swapped ({ frames := 11, cells := 0, slots := 0, locals := 260 }) G cy ad (Sy cy ad n k v o) sz [.ref (ad 0), .int (nI j), .ref (ad 12)] 0 0 (fun (r : Int32) u => r = nI 0 ∧ ∃ (r9 : Int32) (g : Nat → Int32), (if v (300 + cu) 1 = v (400 + j) 1 then r9 = -1 else mSwR (v (200 + cu)) (v (400 + j) 1) r9) ∧ u = (ad, Sy cy ad n k (va_up v 3 g) (vp_updL o 0 r9.toInt64))) := by
  refine va_MetW (cc := cL_swapped) (maxL := 4) (ret := (some .int)) (hh := [(0, 9, 12, 19)]) (by decide) rfl ?_
  intro p e s m args below meth c s₁ B hml hv
  obtain ⟨rfl, hv⟩ := hv
  have hsz := hv.1
  subst hsz
  have hN := hv.2.2
  have hE := mP_E hv
  have hx := B.exec
  have hb := B.bytes
  have hr := B.returns
  have hts := atoms_spec (ws := wsL_swapped) B.pre
  have hown : s.vm.findClass RL = some m.cls := findClass_of_methodNamed B.named
  have hlocks := B.notSynchronized
  have htab : c.exceptionTable.toList = tableOf [(0, 9, 12, 19)] := vx_table (x := yL_swapped) B (hts _ List.mem_cons_self)
  have hl := lv_entry ([.ref (ad 0), .int (nI j), .ref (ad 12)]) (n := 4) (Nat.le_of_ble_eq_true rfl)
  rw [lg_entry_eq]
  generalize (lg_sl ([.ref (ad 0), .int (nI j), .ref (ad 12)]) ++ List.replicate (4 - (lg_sl ([.ref (ad 0), .int (nI j), .ref (ad 12)])).length) Slot.unset).toArray = ls at hl ⊢
  have hl : lv_has ls 4 [(0, .ref (ad 0)), (1, .int (nI j)), (2, .ref (ad 12))] := hl
  refine lv_aload_n hx hb dL_swapped_0 rfl (lv_at hl 2 rfl) ?_
  refine lv_iconst (v := nI 0) hx hb dL_swapped_1 (by decide) ?_
  refine lv_aload_n hx hb dL_swapped_2 rfl (lv_at hl 0 rfl) ?_
  refine lv_iload_n hx hb dL_swapped_3 rfl (lv_at hl 1 rfl) ?_
  refine va_calli (va_runV (As := [.int (nI j)]) (rest := [.int (nI 0), .ref (ad 12)]) ⟨hx, hb, hml, hown, hts⟩ (c_X2_swapped l G cy ad n k v o hn hk _ j h_j cu h_cu hsc hcon) (cwV 1 hts gL_swapped_X2_swapped rfl rfl rfl (by decide +kernel) ⟨Nat.le_of_ble_eq_true rfl, Nat.le_of_ble_eq_true rfl⟩) (mP_V (r := (RX2, TX2, 5)) hN hE S_0 rfl) rfl rfl hl.1 rfl (lv_room (Nat.le_of_ble_eq_true rfl)) dL_swapped_4 ⟨Nat.le_of_ble_eq_true rfl, Nat.le_of_ble_eq_true rfl⟩) hE.2.2.2 (fun q _ h => mE_A hE q h) (mE_A hE) (fun r uq tq H locs ht hvm hw hB hz1 hk1 hS => ?_)
  obtain ⟨hr9, g9, rfl⟩ := hw
  have hE : mE G (mA ad (Sy cy ad n k v o) s.heap.size) s.heap ad (Sy cy ad n k (va_up v 3 g9) o) H locs := mE_call hE hB ht hS
  refine lv_i2l hx hb dL_swapped_7 rfl ?_
  refine mx_last hx hb hN hE S_12 (j := 0) rfl (by decide) (by decide) dL_swapped_8 (fun H locs hE => ?_)
  rw [S_out] at hE
  refine lv_goto (tgt := 15) hx hb dL_swapped_9 (by decide) ?_
  refine lv_iconst (v := nI 0) hx hb dL_swapped_15 (by decide) ?_
  exact mx_iret hx hb hr hE hlocks ⟨rfl, r, g9, hr9, rfl⟩ dL_swapped_16

set_option maxHeartbeats 4000000 in
set_option maxRecDepth 100000 in
/-- swapped of the law, refused -/
theorem x_L_swapped1 (l : Launch) (hst : l.stackTraces = false) (G : va_G) (cy : Nat → ClassId) (ad : Nat → Nat) (n k : Nat) (v : Nat → Nat → Int32) (o : Nat → Int64) (hn : n ≤ 6) (hk : k ≤ 20) (sz : Nat) (x : Int32) (hbad : x < 0 ∨ nI k ≤ x) : mMi l yL_swapped wsL_swapped ({ frames := 11, cells := 1, slots := 6, locals := 260 }) G cy ad (Sy cy ad n k v o) sz [.ref (ad 0), .int x, .ref (ad 12)] 1 6 (fun (r : Int32) u => r = nI 1 ∧ u = (ad, Sy cy ad n k v o)) := by
  refine va_MetW (cc := cL_swapped) (maxL := 4) (ret := (some .int)) (hh := [(0, 9, 12, 19)]) (by decide) rfl ?_
  intro p e s m args below meth c s₁ B hml hv
  obtain ⟨rfl, hv⟩ := hv
  have hsz := hv.1
  subst hsz
  have hN := hv.2.2
  have hE := mP_E hv
  have hx := B.exec
  have hb := B.bytes
  have hr := B.returns
  have hts := atoms_spec (ws := wsL_swapped) B.pre
  have hown : s.vm.findClass RL = some m.cls := findClass_of_methodNamed B.named
  have hlocks := B.notSynchronized
  have htab : c.exceptionTable.toList = tableOf [(0, 9, 12, 19)] := vx_table (x := yL_swapped) B (hts _ List.mem_cons_self)
  have hl := lv_entry ([.ref (ad 0), .int x, .ref (ad 12)]) (n := 4) (Nat.le_of_ble_eq_true rfl)
  rw [lg_entry_eq]
  generalize (lg_sl ([.ref (ad 0), .int x, .ref (ad 12)]) ++ List.replicate (4 - (lg_sl ([.ref (ad 0), .int x, .ref (ad 12)])).length) Slot.unset).toArray = ls at hl ⊢
  have hl : lv_has ls 4 [(0, .ref (ad 0)), (1, .int x), (2, .ref (ad 12))] := hl
  refine lv_aload_n hx hb dL_swapped_0 rfl (lv_at hl 2 rfl) ?_
  refine lv_iconst (v := nI 0) hx hb dL_swapped_1 (by decide) ?_
  refine lv_aload_n hx hb dL_swapped_2 rfl (lv_at hl 0 rfl) ?_
  refine lv_iload_n hx hb dL_swapped_3 rfl (lv_at hl 1 rfl) ?_
  refine mx_caught (vx_runV (As := [.int x]) (rest := [.int (nI 0), .ref (ad 12)]) ⟨hx, hb, hml, hown, hts⟩ (x_X2_swapped1 l hst G cy ad n k v o hn hk _ x hbad) (cwV 1 hts gL_swapped_X2_swapped rfl rfl rfl (by decide +kernel) ⟨Nat.le_of_ble_eq_true rfl, Nat.le_of_ble_eq_true rfl⟩) (mP_V (r := (RX2, TX2, 5)) hN hE S_0 rfl) rfl rfl hl.1 rfl (lv_room (Nat.le_of_ble_eq_true rfl)) dL_swapped_4 ⟨Nat.le_of_ble_eq_true rfl, Nat.le_of_ble_eq_true rfl⟩) hE (fun q9 ce H locs hq1 hq2 hq3 hE => ?_)
  refine vx_catch hown [] ⟨0, 9, 12, 19⟩ [] htab (fun z hz => absurd hz List.not_mem_nil) rfl (by decide) (hts (.classLink RL 19 "java/lang/IndexOutOfBoundsException") (by decide +kernel)) (va_Nw.use rfl (hN.2.1 (.castable "java/lang/IndexOutOfBoundsException" "java/lang/IndexOutOfBoundsException") (by decide +kernel))) hq1 hq2 hq3 ?_
  dsimp only
  refine lv_astore_n (lv' := [(3, .ref q9), (0, .ref (ad 0)), (1, .int x), (2, .ref (ad 12))]) hx hb dL_swapped_12 rfl hl (by decide) rfl (fun ls hl => ?_)
  refine lv_iconst (v := nI 1) hx hb dL_swapped_13 (by decide) ?_
  exact mx_iret hx hb hr hE hlocks ⟨rfl, rfl⟩ dL_swapped_14

set_option maxHeartbeats 4000000 in
set_option maxRecDepth 100000 in
/-- count of the law -/
theorem c_L_count (l : Launch) (G : va_G) (cy : Nat → ClassId) (ad : Nat → Nat) (n k : Nat) (v : Nat → Nat → Int32) (o : Nat → Int64) (hn : n ≤ 6) (hk : k ≤ 20) (sz : Nat) (t9 : Nat) (ht9 : t9 < 4) : mMi l yL_count wsL_count ({ frames := 11, cells := 0, slots := 0, locals := 260 }) G cy ad (Sy cy ad n k v o) sz [.ref (ad 0), .int (nI t9), .ref (ad 12)] 0 0 (fun (r : Int32) u => r = nI 0 ∧ u = (ad, Sy cy ad n k v (vp_updL o 0 (mCount v n k t9).toInt64))) := by
  refine va_MetW (cc := cL_count) (maxL := 4) (ret := (some .int)) (hh := [(0, 9, 12, 19)]) (by decide) rfl ?_
  intro p e s m args below meth c s₁ B hml hv
  obtain ⟨rfl, hv⟩ := hv
  have hsz := hv.1
  subst hsz
  have hN := hv.2.2
  have hE := mP_E hv
  have hx := B.exec
  have hb := B.bytes
  have hr := B.returns
  have hts := atoms_spec (ws := wsL_count) B.pre
  have hown : s.vm.findClass RL = some m.cls := findClass_of_methodNamed B.named
  have hlocks := B.notSynchronized
  have htab : c.exceptionTable.toList = tableOf [(0, 9, 12, 19)] := vx_table (x := yL_count) B (hts _ List.mem_cons_self)
  have hl := lv_entry ([.ref (ad 0), .int (nI t9), .ref (ad 12)]) (n := 4) (Nat.le_of_ble_eq_true rfl)
  rw [lg_entry_eq]
  generalize (lg_sl ([.ref (ad 0), .int (nI t9), .ref (ad 12)]) ++ List.replicate (4 - (lg_sl ([.ref (ad 0), .int (nI t9), .ref (ad 12)])).length) Slot.unset).toArray = ls at hl ⊢
  have hl : lv_has ls 4 [(0, .ref (ad 0)), (1, .int (nI t9)), (2, .ref (ad 12))] := hl
  refine lv_aload_n hx hb dL_count_0 rfl (lv_at hl 2 rfl) ?_
  refine lv_iconst (v := nI 0) hx hb dL_count_1 (by decide) ?_
  refine lv_aload_n hx hb dL_count_2 rfl (lv_at hl 0 rfl) ?_
  refine lv_iload_n hx hb dL_count_3 rfl (lv_at hl 1 rfl) ?_
  refine va_calli (va_runV (As := [.int (nI t9)]) (rest := [.int (nI 0), .ref (ad 12)]) ⟨hx, hb, hml, hown, hts⟩ (c_X2_count l G cy ad n k v o hn hk _ t9 ht9) (cwV 1 hts gL_count_X2_count rfl rfl rfl (by decide +kernel) ⟨Nat.le_of_ble_eq_true rfl, Nat.le_of_ble_eq_true rfl⟩) (mP_V (r := (RX2, TX2, 5)) hN hE S_0 rfl) rfl rfl hl.1 rfl (lv_room (Nat.le_of_ble_eq_true rfl)) dL_count_4 ⟨Nat.le_of_ble_eq_true rfl, Nat.le_of_ble_eq_true rfl⟩) hE.2.2.2 (fun q _ h => mE_A hE q h) (mE_A hE) (fun r uq tq H locs ht hvm hw hB hz1 hk1 hS => ?_)
  obtain ⟨rfl, rfl⟩ := hw
  have hE : mE G (mA ad (Sy cy ad n k v o) s.heap.size) s.heap ad (Sy cy ad n k v o) H locs := mE_call hE hB ht hS
  refine lv_i2l hx hb dL_count_7 rfl ?_
  refine mx_last hx hb hN hE S_12 (j := 0) rfl (by decide) (by decide) dL_count_8 (fun H locs hE => ?_)
  rw [S_out] at hE
  refine lv_goto (tgt := 15) hx hb dL_count_9 (by decide) ?_
  refine lv_iconst (v := nI 0) hx hb dL_count_15 (by decide) ?_
  exact mx_iret hx hb hr hE hlocks ⟨rfl, rfl⟩ dL_count_16

set_option maxHeartbeats 4000000 in
set_option maxRecDepth 100000 in
/-- count of the law, refused -/
theorem x_L_count1 (l : Launch) (hst : l.stackTraces = false) (G : va_G) (cy : Nat → ClassId) (ad : Nat → Nat) (n k : Nat) (v : Nat → Nat → Int32) (o : Nat → Int64) (hn : n ≤ 6) (hk : k ≤ 20) (sz : Nat) (x : Int32) (hbad : x < 0 ∨ nI 4 ≤ x) : mMi l yL_count wsL_count ({ frames := 11, cells := 1, slots := 6, locals := 260 }) G cy ad (Sy cy ad n k v o) sz [.ref (ad 0), .int x, .ref (ad 12)] 1 6 (fun (r : Int32) u => r = nI 1 ∧ u = (ad, Sy cy ad n k v o)) := by
  refine va_MetW (cc := cL_count) (maxL := 4) (ret := (some .int)) (hh := [(0, 9, 12, 19)]) (by decide) rfl ?_
  intro p e s m args below meth c s₁ B hml hv
  obtain ⟨rfl, hv⟩ := hv
  have hsz := hv.1
  subst hsz
  have hN := hv.2.2
  have hE := mP_E hv
  have hx := B.exec
  have hb := B.bytes
  have hr := B.returns
  have hts := atoms_spec (ws := wsL_count) B.pre
  have hown : s.vm.findClass RL = some m.cls := findClass_of_methodNamed B.named
  have hlocks := B.notSynchronized
  have htab : c.exceptionTable.toList = tableOf [(0, 9, 12, 19)] := vx_table (x := yL_count) B (hts _ List.mem_cons_self)
  have hl := lv_entry ([.ref (ad 0), .int x, .ref (ad 12)]) (n := 4) (Nat.le_of_ble_eq_true rfl)
  rw [lg_entry_eq]
  generalize (lg_sl ([.ref (ad 0), .int x, .ref (ad 12)]) ++ List.replicate (4 - (lg_sl ([.ref (ad 0), .int x, .ref (ad 12)])).length) Slot.unset).toArray = ls at hl ⊢
  have hl : lv_has ls 4 [(0, .ref (ad 0)), (1, .int x), (2, .ref (ad 12))] := hl
  refine lv_aload_n hx hb dL_count_0 rfl (lv_at hl 2 rfl) ?_
  refine lv_iconst (v := nI 0) hx hb dL_count_1 (by decide) ?_
  refine lv_aload_n hx hb dL_count_2 rfl (lv_at hl 0 rfl) ?_
  refine lv_iload_n hx hb dL_count_3 rfl (lv_at hl 1 rfl) ?_
  refine mx_caught (vx_runV (As := [.int x]) (rest := [.int (nI 0), .ref (ad 12)]) ⟨hx, hb, hml, hown, hts⟩ (x_X2_count1 l hst G cy ad n k v o hn hk _ x hbad) (cwV 1 hts gL_count_X2_count rfl rfl rfl (by decide +kernel) ⟨Nat.le_of_ble_eq_true rfl, Nat.le_of_ble_eq_true rfl⟩) (mP_V (r := (RX2, TX2, 5)) hN hE S_0 rfl) rfl rfl hl.1 rfl (lv_room (Nat.le_of_ble_eq_true rfl)) dL_count_4 ⟨Nat.le_of_ble_eq_true rfl, Nat.le_of_ble_eq_true rfl⟩) hE (fun q9 ce H locs hq1 hq2 hq3 hE => ?_)
  refine vx_catch hown [] ⟨0, 9, 12, 19⟩ [] htab (fun z hz => absurd hz List.not_mem_nil) rfl (by decide) (hts (.classLink RL 19 "java/lang/IndexOutOfBoundsException") (by decide +kernel)) (va_Nw.use rfl (hN.2.1 (.castable "java/lang/IndexOutOfBoundsException" "java/lang/IndexOutOfBoundsException") (by decide +kernel))) hq1 hq2 hq3 ?_
  dsimp only
  refine lv_astore_n (lv' := [(3, .ref q9), (0, .ref (ad 0)), (1, .int x), (2, .ref (ad 12))]) hx hb dL_count_12 rfl hl (by decide) rfl (fun ls hl => ?_)
  refine lv_iconst (v := nI 1) hx hb dL_count_13 (by decide) ?_
  exact mx_iret hx hb hr hE hlocks ⟨rfl, rfl⟩ dL_count_14
