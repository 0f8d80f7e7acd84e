set_option maxHeartbeats 4000000 in
set_option maxRecDepth 100000 in
/-- checkDrawer, where all is well -/
theorem c_X2_checkDrawer (l : Launch) (G : va_G) (cy : Nat → ClassId) (ad : Nat → Nat) (M : mC) (sz : Nat) (d : Nat) (hd : d < 16) : mMv l yX2_checkDrawer wsX2_checkDrawer ({ frames := 7, cells := 0, slots := 0, locals := 100 }) G cy ad (M) sz [.int (nI d)] 0 0 (fun u => u = (ad, M)) := by
  refine Met.ofW (cc := cX2_checkDrawer) (maxL := 1) (ret := none) (by decide) rfl ?_
  intro p e s m args below meth c s₁ B hml hv
  obtain ⟨rfl, hv⟩ := hv
  have hsz := hv.1
  subst hsz
  have hN := hv.2.2
  have hE := mP_E hv
  have hx := B.exec
  have hb := B.bytes
  have hr := B.returns
  have hts := atoms_spec (ws := wsX2_checkDrawer) B.pre
  have hown : s.vm.findClass RX2 = some m.cls := findClass_of_methodNamed B.named
  have hlocks := B.notSynchronized
  have hl := lv_entry ([.int (nI d)]) (n := 1) (Nat.le_of_ble_eq_true rfl)
  rw [lg_entry_eq]
  generalize (lg_sl ([.int (nI d)]) ++ List.replicate (1 - (lg_sl ([.int (nI d)])).length) Slot.unset).toArray = ls at hl ⊢
  have hl : lv_has ls 1 [(0, .int (nI d))] := hl
  refine lv_iload_n hx hb dX2_checkDrawer_0 rfl (lv_at hl 0 rfl) ?_
  refine lv_if_lt (tgt := 10) hx hb dX2_checkDrawer_1 (by decide) (fun c1 => ?_) (fun c1 => ?_)
  · skip
    exact absurd c1 (nI_pos (by omega))
  · skip
    refine lv_iload_n hx hb dX2_checkDrawer_4 rfl (lv_at hl 0 rfl) ?_
    refine lv_bipush (v := nI 16) hx hb dX2_checkDrawer_5 (by decide) ?_
    refine mv_lt (tgt := 20) hx hb (by omega) (by omega) dX2_checkDrawer_7 (by decide) (fun c2 => ?_) (fun c2 => ?_)
    · skip
      exact mx_vret hx hb hr hE hlocks rfl dX2_checkDrawer_20
    · skip
      exfalso; omega

set_option maxHeartbeats 4000000 in
set_option maxRecDepth 100000 in
/-- checkDrawer throws -/
theorem x_X2_checkDrawer (l : Launch) (hst : l.stackTraces = false) (G : va_G) (cy : Nat → ClassId) (ad : Nat → Nat) (M : mC) (sz : Nat) (x : Int32) (hbad : x < 0 ∨ nI 16 ≤ x) : mMx l yX2_checkDrawer wsX2_checkDrawer ({ frames := 7, cells := 1, slots := 6, locals := 100 }) G cy ad (M) sz [.int x] 1 6 "java/lang/IndexOutOfBoundsException" := by
  refine vx_ofW (cc := cX2_checkDrawer) (maxL := 1) (ret := none) (by decide) rfl ?_
  intro p e s m args below meth c s₁ B hml hnt hv
  obtain ⟨rfl, hv⟩ := hv
  have hsz := hv.1
  subst hsz
  have hN := hv.2.2
  have hE := mP_E hv
  have hx := B.exec
  have hb := B.bytes
  have hr := B.returns
  have hts := atoms_spec (ws := wsX2_checkDrawer) B.pre
  have hown : s.vm.findClass RX2 = some m.cls := findClass_of_methodNamed B.named
  have hlocks := B.notSynchronized
  have hl := lv_entry ([.int x]) (n := 1) (Nat.le_of_ble_eq_true rfl)
  rw [lg_entry_eq]
  generalize (lg_sl ([.int x]) ++ List.replicate (1 - (lg_sl ([.int x])).length) Slot.unset).toArray = ls at hl ⊢
  have hl : lv_has ls 1 [(0, .int x)] := hl
  refine lv_iload_n hx hb dX2_checkDrawer_0 rfl (lv_at hl 0 rfl) ?_
  refine lv_if_lt (tgt := 10) hx hb dX2_checkDrawer_1 (by decide) (fun c1 => ?_) (fun c1 => ?_)
  · skip
    obtain ⟨sa, hsa⟩ := hN.2.2.2.1 (186, "a drawer is not 0 to 15") (by decide +kernel)
    exact mx_throw hx hb hst hown (cls := "java/lang/IndexOutOfBoundsException") (by decide +kernel) (hts (.classLink RX2 68 "java/lang/IndexOutOfBoundsException") (by decide +kernel)) (hts (.initialized "java/lang/IndexOutOfBoundsException") (by decide +kernel)) hsa (vx_hat (fun w hw => hts w ((fun w hw => List.mem_cons_of_mem _ (List.mem_append_right _ hw)) w hw)) (B := [.castable "java/lang/IndexOutOfBoundsException" "java/lang/IndexOutOfBoundsException", .declares ⟨"java/lang/RuntimeException", "<init>", "(Ljava/lang/String;)V"⟩, .declares ⟨"java/lang/Exception", "<init>", "(Ljava/lang/String;)V"⟩, .declares ⟨"java/lang/Throwable", "<init>", "(Ljava/lang/String;)V"⟩]) (by decide +kernel) (vx_c (va_Nw.use rfl (hN.2.1 _ (by decide +kernel))) (vx_c (va_Nw.use rfl (hN.2.1 _ (by decide +kernel))) (vx_c (va_Nw.use rfl (hN.2.1 _ (by decide +kernel))) (vx_c (va_Nw.use rfl (hN.2.1 _ (by decide +kernel))) vx_n))))) (by decide +kernel) hN hE (hl.1.trans hml.symm) dX2_checkDrawer_10 dX2_checkDrawer_13 dX2_checkDrawer_14 dX2_checkDrawer_16 dX2_checkDrawer_19 hnt (Nat.le_of_ble_eq_true rfl) (Nat.le_of_ble_eq_true rfl) (Nat.le_of_ble_eq_true rfl) (Nat.le_of_ble_eq_true rfl) hlocks (Nat.le_of_ble_eq_true rfl) (Nat.le_of_ble_eq_true rfl)
  · skip
    refine lv_iload_n hx hb dX2_checkDrawer_4 rfl (lv_at hl 0 rfl) ?_
    refine lv_bipush (v := nI 16) hx hb dX2_checkDrawer_5 (by decide) ?_
    refine lv_icmp_lt (tgt := 20) hx hb dX2_checkDrawer_7 (by decide) (fun c2 => ?_) (fun c2 => ?_)
    · skip
      exact absurd c2 (by rcases hbad with h | h; exact absurd h c1; exact Int32.not_lt.mpr h)
    · skip
      obtain ⟨sa, hsa⟩ := hN.2.2.2.1 (186, "a drawer is not 0 to 15") (by decide +kernel)
      exact mx_throw hx hb hst hown (cls := "java/lang/IndexOutOfBoundsException") (by decide +kernel) (hts (.classLink RX2 68 "java/lang/IndexOutOfBoundsException") (by decide +kernel)) (hts (.initialized "java/lang/IndexOutOfBoundsException") (by decide +kernel)) hsa (vx_hat (fun w hw => hts w ((fun w hw => List.mem_cons_of_mem _ (List.mem_append_right _ hw)) w hw)) (B := [.castable "java/lang/IndexOutOfBoundsException" "java/lang/IndexOutOfBoundsException", .declares ⟨"java/lang/RuntimeException", "<init>", "(Ljava/lang/String;)V"⟩, .declares ⟨"java/lang/Exception", "<init>", "(Ljava/lang/String;)V"⟩, .declares ⟨"java/lang/Throwable", "<init>", "(Ljava/lang/String;)V"⟩]) (by decide +kernel) (vx_c (va_Nw.use rfl (hN.2.1 _ (by decide +kernel))) (vx_c (va_Nw.use rfl (hN.2.1 _ (by decide +kernel))) (vx_c (va_Nw.use rfl (hN.2.1 _ (by decide +kernel))) (vx_c (va_Nw.use rfl (hN.2.1 _ (by decide +kernel))) vx_n))))) (by decide +kernel) hN hE (hl.1.trans hml.symm) dX2_checkDrawer_10 dX2_checkDrawer_13 dX2_checkDrawer_14 dX2_checkDrawer_16 dX2_checkDrawer_19 hnt (Nat.le_of_ble_eq_true rfl) (Nat.le_of_ble_eq_true rfl) (Nat.le_of_ble_eq_true rfl) (Nat.le_of_ble_eq_true rfl) hlocks (Nat.le_of_ble_eq_true rfl) (Nat.le_of_ble_eq_true rfl)

set_option maxHeartbeats 4000000 in
set_option maxRecDepth 100000 in
/-- checkWhat, where all is well -/
theorem c_X2_checkWhat (l : Launch) (G : va_G) (cy : Nat → ClassId) (ad : Nat → Nat) (M : mC) (sz : Nat) (d z : Nat) (hd : d < z) (hz : z < 100) : mMv l yX2_checkWhat wsX2_checkWhat ({ frames := 7, cells := 0, slots := 0, locals := 100 }) G cy ad (M) sz [.int (nI d), .int (nI z)] 0 0 (fun u => u = (ad, M)) := by
  refine Met.ofW (cc := cX2_checkWhat) (maxL := 2) (ret := none) (by decide) rfl ?_
  intro p e s m args below meth c s₁ B hml hv
  obtain ⟨rfl, hv⟩ := hv
  have hsz := hv.1
  subst hsz
  have hN := hv.2.2
  have hE := mP_E hv
  have hx := B.exec
  have hb := B.bytes
  have hr := B.returns
  have hts := atoms_spec (ws := wsX2_checkWhat) B.pre
  have hown : s.vm.findClass RX2 = some m.cls := findClass_of_methodNamed B.named
  have hlocks := B.notSynchronized
  have hl := lv_entry ([.int (nI d), .int (nI z)]) (n := 2) (Nat.le_of_ble_eq_true rfl)
  rw [lg_entry_eq]
  generalize (lg_sl ([.int (nI d), .int (nI z)]) ++ List.replicate (2 - (lg_sl ([.int (nI d), .int (nI z)])).length) Slot.unset).toArray = ls at hl ⊢
  have hl : lv_has ls 2 [(0, .int (nI d)), (1, .int (nI z))] := hl
  refine lv_iload_n hx hb dX2_checkWhat_0 rfl (lv_at hl 0 rfl) ?_
  refine lv_if_lt (tgt := 9) hx hb dX2_checkWhat_1 (by decide) (fun c1 => ?_) (fun c1 => ?_)
  · skip
    exact absurd c1 (nI_pos (by omega))
  · skip
    refine lv_iload_n hx hb dX2_checkWhat_4 rfl (lv_at hl 0 rfl) ?_
    refine lv_iload_n hx hb dX2_checkWhat_5 rfl (lv_at hl 1 rfl) ?_
    refine mv_lt (tgt := 19) hx hb (by omega) (by omega) dX2_checkWhat_6 (by decide) (fun c2 => ?_) (fun c2 => ?_)
    · skip
      exact mx_vret hx hb hr hE hlocks rfl dX2_checkWhat_19
    · skip
      exfalso; omega

set_option maxHeartbeats 4000000 in
set_option maxRecDepth 100000 in
/-- checkWhat throws -/
theorem x_X2_checkWhat (l : Launch) (hst : l.stackTraces = false) (G : va_G) (cy : Nat → ClassId) (ad : Nat → Nat) (M : mC) (sz : Nat) (x : Int32) (z : Nat) (hbad : x < 0 ∨ nI z ≤ x) : mMx l yX2_checkWhat wsX2_checkWhat ({ frames := 7, cells := 1, slots := 6, locals := 100 }) G cy ad (M) sz [.int x, .int (nI z)] 1 6 "java/lang/IndexOutOfBoundsException" := by
  refine vx_ofW (cc := cX2_checkWhat) (maxL := 2) (ret := none) (by decide) rfl ?_
  intro p e s m args below meth c s₁ B hml hnt hv
  obtain ⟨rfl, hv⟩ := hv
  have hsz := hv.1
  subst hsz
  have hN := hv.2.2
  have hE := mP_E hv
  have hx := B.exec
  have hb := B.bytes
  have hr := B.returns
  have hts := atoms_spec (ws := wsX2_checkWhat) B.pre
  have hown : s.vm.findClass RX2 = some m.cls := findClass_of_methodNamed B.named
  have hlocks := B.notSynchronized
  have hl := lv_entry ([.int x, .int (nI z)]) (n := 2) (Nat.le_of_ble_eq_true rfl)
  rw [lg_entry_eq]
  generalize (lg_sl ([.int x, .int (nI z)]) ++ List.replicate (2 - (lg_sl ([.int x, .int (nI z)])).length) Slot.unset).toArray = ls at hl ⊢
  have hl : lv_has ls 2 [(0, .int x), (1, .int (nI z))] := hl
  refine lv_iload_n hx hb dX2_checkWhat_0 rfl (lv_at hl 0 rfl) ?_
  refine lv_if_lt (tgt := 9) hx hb dX2_checkWhat_1 (by decide) (fun c1 => ?_) (fun c1 => ?_)
  · skip
    obtain ⟨sa, hsa⟩ := hN.2.2.2.1 (188, "there is no such number to tell") (by decide +kernel)
    exact mx_throw hx hb hst hown (cls := "java/lang/IndexOutOfBoundsException") (by decide +kernel) (hts (.classLink RX2 68 "java/lang/IndexOutOfBoundsException") (by decide +kernel)) (hts (.initialized "java/lang/IndexOutOfBoundsException") (by decide +kernel)) hsa (vx_hat (fun w hw => hts w ((fun w hw => List.mem_cons_of_mem _ (List.mem_append_right _ hw)) w hw)) (B := [.castable "java/lang/IndexOutOfBoundsException" "java/lang/IndexOutOfBoundsException", .declares ⟨"java/lang/RuntimeException", "<init>", "(Ljava/lang/String;)V"⟩, .declares ⟨"java/lang/Exception", "<init>", "(Ljava/lang/String;)V"⟩, .declares ⟨"java/lang/Throwable", "<init>", "(Ljava/lang/String;)V"⟩]) (by decide +kernel) (vx_c (va_Nw.use rfl (hN.2.1 _ (by decide +kernel))) (vx_c (va_Nw.use rfl (hN.2.1 _ (by decide +kernel))) (vx_c (va_Nw.use rfl (hN.2.1 _ (by decide +kernel))) (vx_c (va_Nw.use rfl (hN.2.1 _ (by decide +kernel))) vx_n))))) (by decide +kernel) hN hE (hl.1.trans hml.symm) dX2_checkWhat_9 dX2_checkWhat_12 dX2_checkWhat_13 dX2_checkWhat_15 dX2_checkWhat_18 hnt (Nat.le_of_ble_eq_true rfl) (Nat.le_of_ble_eq_true rfl) (Nat.le_of_ble_eq_true rfl) (Nat.le_of_ble_eq_true rfl) hlocks (Nat.le_of_ble_eq_true rfl) (Nat.le_of_ble_eq_true rfl)
  · skip
    refine lv_iload_n hx hb dX2_checkWhat_4 rfl (lv_at hl 0 rfl) ?_
    refine lv_iload_n hx hb dX2_checkWhat_5 rfl (lv_at hl 1 rfl) ?_
    refine lv_icmp_lt (tgt := 19) hx hb dX2_checkWhat_6 (by decide) (fun c2 => ?_) (fun c2 => ?_)
    · skip
      exact absurd c2 (by rcases hbad with h | h; exact absurd h c1; exact Int32.not_lt.mpr h)
    · skip
      obtain ⟨sa, hsa⟩ := hN.2.2.2.1 (188, "there is no such number to tell") (by decide +kernel)
      exact mx_throw hx hb hst hown (cls := "java/lang/IndexOutOfBoundsException") (by decide +kernel) (hts (.classLink RX2 68 "java/lang/IndexOutOfBoundsException") (by decide +kernel)) (hts (.initialized "java/lang/IndexOutOfBoundsException") (by decide +kernel)) hsa (vx_hat (fun w hw => hts w ((fun w hw => List.mem_cons_of_mem _ (List.mem_append_right _ hw)) w hw)) (B := [.castable "java/lang/IndexOutOfBoundsException" "java/lang/IndexOutOfBoundsException", .declares ⟨"java/lang/RuntimeException", "<init>", "(Ljava/lang/String;)V"⟩, .declares ⟨"java/lang/Exception", "<init>", "(Ljava/lang/String;)V"⟩, .declares ⟨"java/lang/Throwable", "<init>", "(Ljava/lang/String;)V"⟩]) (by decide +kernel) (vx_c (va_Nw.use rfl (hN.2.1 _ (by decide +kernel))) (vx_c (va_Nw.use rfl (hN.2.1 _ (by decide +kernel))) (vx_c (va_Nw.use rfl (hN.2.1 _ (by decide +kernel))) (vx_c (va_Nw.use rfl (hN.2.1 _ (by decide +kernel))) vx_n))))) (by decide +kernel) hN hE (hl.1.trans hml.symm) dX2_checkWhat_9 dX2_checkWhat_12 dX2_checkWhat_13 dX2_checkWhat_15 dX2_checkWhat_18 hnt (Nat.le_of_ble_eq_true rfl) (Nat.le_of_ble_eq_true rfl) (Nat.le_of_ble_eq_true rfl) (Nat.le_of_ble_eq_true rfl) hlocks (Nat.le_of_ble_eq_true rfl) (Nat.le_of_ble_eq_true rfl)

set_option maxHeartbeats 4000000 in
set_option maxRecDepth 100000 in
/-- checkThing, where all is well -/
theorem c_X2_checkThing (l : Launch) (G : va_G) (cy : Nat → ClassId) (ad : Nat → Nat) (M : mC) (sz : Nat) (d : Nat) (hd : d < 10000) : mMv l yX2_checkThing wsX2_checkThing ({ frames := 7, cells := 0, slots := 0, locals := 100 }) G cy ad (M) sz [.int (nI d)] 0 0 (fun u => u = (ad, M)) := by
  refine Met.ofW (cc := cX2_checkThing) (maxL := 1) (ret := none) (by decide) rfl ?_
  intro p e s m args below meth c s₁ B hml hv
  obtain ⟨rfl, hv⟩ := hv
  have hsz := hv.1
  subst hsz
  have hN := hv.2.2
  have hE := mP_E hv
  have hx := B.exec
  have hb := B.bytes
  have hr := B.returns
  have hts := atoms_spec (ws := wsX2_checkThing) B.pre
  have hown : s.vm.findClass RX2 = some m.cls := findClass_of_methodNamed B.named
  have hlocks := B.notSynchronized
  have hl := lv_entry ([.int (nI d)]) (n := 1) (Nat.le_of_ble_eq_true rfl)
  rw [lg_entry_eq]
  generalize (lg_sl ([.int (nI d)]) ++ List.replicate (1 - (lg_sl ([.int (nI d)])).length) Slot.unset).toArray = ls at hl ⊢
  have hl : lv_has ls 1 [(0, .int (nI d))] := hl
  refine lv_iload_n hx hb dX2_checkThing_0 rfl (lv_at hl 0 rfl) ?_
  refine lv_if_lt (tgt := 11) hx hb dX2_checkThing_1 (by decide) (fun c1 => ?_) (fun c1 => ?_)
  · skip
    exact absurd c1 (nI_pos (by omega))
  · skip
    refine lv_iload_n hx hb dX2_checkThing_4 rfl (lv_at hl 0 rfl) ?_
    refine lv_sipush (v := nI 9999) hx hb dX2_checkThing_5 (by decide) ?_
    refine mv_le (tgt := 21) hx hb (by omega) (by omega) dX2_checkThing_8 (by decide) (fun c2 => ?_) (fun c2 => ?_)
    · skip
      exact mx_vret hx hb hr hE hlocks rfl dX2_checkThing_21
    · skip
      exfalso; omega

set_option maxHeartbeats 4000000 in
set_option maxRecDepth 100000 in
/-- checkThing throws -/
theorem x_X2_checkThing (l : Launch) (hst : l.stackTraces = false) (G : va_G) (cy : Nat → ClassId) (ad : Nat → Nat) (M : mC) (sz : Nat) (x : Int32) (hbad : x < 0 ∨ nI 10000 ≤ x) : mMx l yX2_checkThing wsX2_checkThing ({ frames := 7, cells := 1, slots := 6, locals := 100 }) G cy ad (M) sz [.int x] 1 6 "java/lang/IllegalArgumentException" := by
  refine vx_ofW (cc := cX2_checkThing) (maxL := 1) (ret := none) (by decide) rfl ?_
  intro p e s m args below meth c s₁ B hml hnt hv
  obtain ⟨rfl, hv⟩ := hv
  have hsz := hv.1
  subst hsz
  have hN := hv.2.2
  have hE := mP_E hv
  have hx := B.exec
  have hb := B.bytes
  have hr := B.returns
  have hts := atoms_spec (ws := wsX2_checkThing) B.pre
  have hown : s.vm.findClass RX2 = some m.cls := findClass_of_methodNamed B.named
  have hlocks := B.notSynchronized
  have hl := lv_entry ([.int x]) (n := 1) (Nat.le_of_ble_eq_true rfl)
  rw [lg_entry_eq]
  generalize (lg_sl ([.int x]) ++ List.replicate (1 - (lg_sl ([.int x])).length) Slot.unset).toArray = ls at hl ⊢
  have hl : lv_has ls 1 [(0, .int x)] := hl
  refine lv_iload_n hx hb dX2_checkThing_0 rfl (lv_at hl 0 rfl) ?_
  refine lv_if_lt (tgt := 11) hx hb dX2_checkThing_1 (by decide) (fun c1 => ?_) (fun c1 => ?_)
  · skip
    obtain ⟨sa, hsa⟩ := hN.2.2.2.1 (192, "thing is not 0 to 9999") (by decide +kernel)
    exact mx_throw hx hb hst hown (cls := "java/lang/IllegalArgumentException") (by decide +kernel) (hts (.classLink RX2 190 "java/lang/IllegalArgumentException") (by decide +kernel)) (hts (.initialized "java/lang/IllegalArgumentException") (by decide +kernel)) hsa (vx_hat (fun w hw => hts w ((fun w hw => List.mem_cons_of_mem _ (List.mem_append_right _ hw)) w hw)) (B := [.castable "java/lang/IllegalArgumentException" "java/lang/IllegalArgumentException", .declares ⟨"java/lang/RuntimeException", "<init>", "(Ljava/lang/String;)V"⟩, .declares ⟨"java/lang/Exception", "<init>", "(Ljava/lang/String;)V"⟩, .declares ⟨"java/lang/Throwable", "<init>", "(Ljava/lang/String;)V"⟩]) (by decide +kernel) (vx_c (va_Nw.use rfl (hN.2.1 _ (by decide +kernel))) (vx_c (va_Nw.use rfl (hN.2.1 _ (by decide +kernel))) (vx_c (va_Nw.use rfl (hN.2.1 _ (by decide +kernel))) (vx_c (va_Nw.use rfl (hN.2.1 _ (by decide +kernel))) vx_n))))) (by decide +kernel) hN hE (hl.1.trans hml.symm) dX2_checkThing_11 dX2_checkThing_14 dX2_checkThing_15 dX2_checkThing_17 dX2_checkThing_20 hnt (Nat.le_of_ble_eq_true rfl) (Nat.le_of_ble_eq_true rfl) (Nat.le_of_ble_eq_true rfl) (Nat.le_of_ble_eq_true rfl) hlocks (Nat.le_of_ble_eq_true rfl) (Nat.le_of_ble_eq_true rfl)
  · skip
    refine lv_iload_n hx hb dX2_checkThing_4 rfl (lv_at hl 0 rfl) ?_
    refine lv_sipush (v := nI 9999) hx hb dX2_checkThing_5 (by decide) ?_
    refine lv_icmp_le (tgt := 21) hx hb dX2_checkThing_8 (by decide) (fun c2 => ?_) (fun c2 => ?_)
    · skip
      exact absurd (by rcases hbad with h | h; exact absurd h c1; exact h) (fun h9 => absurd (Int32.le_trans h9 c2) (by decide))
    · skip
      obtain ⟨sa, hsa⟩ := hN.2.2.2.1 (192, "thing is not 0 to 9999") (by decide +kernel)
      exact mx_throw hx hb hst hown (cls := "java/lang/IllegalArgumentException") (by decide +kernel) (hts (.classLink RX2 190 "java/lang/IllegalArgumentException") (by decide +kernel)) (hts (.initialized "java/lang/IllegalArgumentException") (by decide +kernel)) hsa (vx_hat (fun w hw => hts w ((fun w hw => List.mem_cons_of_mem _ (List.mem_append_right _ hw)) w hw)) (B := [.castable "java/lang/IllegalArgumentException" "java/lang/IllegalArgumentException", .declares ⟨"java/lang/RuntimeException", "<init>", "(Ljava/lang/String;)V"⟩, .declares ⟨"java/lang/Exception", "<init>", "(Ljava/lang/String;)V"⟩, .declares ⟨"java/lang/Throwable", "<init>", "(Ljava/lang/String;)V"⟩]) (by decide +kernel) (vx_c (va_Nw.use rfl (hN.2.1 _ (by decide +kernel))) (vx_c (va_Nw.use rfl (hN.2.1 _ (by decide +kernel))) (vx_c (va_Nw.use rfl (hN.2.1 _ (by decide +kernel))) (vx_c (va_Nw.use rfl (hN.2.1 _ (by decide +kernel))) vx_n))))) (by decide +kernel) hN hE (hl.1.trans hml.symm) dX2_checkThing_11 dX2_checkThing_14 dX2_checkThing_15 dX2_checkThing_17 dX2_checkThing_20 hnt (Nat.le_of_ble_eq_true rfl) (Nat.le_of_ble_eq_true rfl) (Nat.le_of_ble_eq_true rfl) (Nat.le_of_ble_eq_true rfl) hlocks (Nat.le_of_ble_eq_true rfl) (Nat.le_of_ble_eq_true rfl)

set_option maxHeartbeats 4000000 in
set_option maxRecDepth 100000 in
/-- checkSum, where all is well -/
theorem c_X2_checkSum (l : Launch) (G : va_G) (cy : Nat → ClassId) (ad : Nat → Nat) (M : mC) (sz : Nat) (d : Nat) (hd : d < 997) : mMv l yX2_checkSum wsX2_checkSum ({ frames := 7, cells := 0, slots := 0, locals := 100 }) G cy ad (M) sz [.int (nI d)] 0 0 (fun u => u = (ad, M)) := by
  refine Met.ofW (cc := cX2_checkSum) (maxL := 1) (ret := none) (by decide) rfl ?_
  intro p e s m args below meth c s₁ B hml hv
  obtain ⟨rfl, hv⟩ := hv
  have hsz := hv.1
  subst hsz
  have hN := hv.2.2
  have hE := mP_E hv
  have hx := B.exec
  have hb := B.bytes
  have hr := B.returns
  have hts := atoms_spec (ws := wsX2_checkSum) B.pre
  have hown : s.vm.findClass RX2 = some m.cls := findClass_of_methodNamed B.named
  have hlocks := B.notSynchronized
  have hl := lv_entry ([.int (nI d)]) (n := 1) (Nat.le_of_ble_eq_true rfl)
  rw [lg_entry_eq]
  generalize (lg_sl ([.int (nI d)]) ++ List.replicate (1 - (lg_sl ([.int (nI d)])).length) Slot.unset).toArray = ls at hl ⊢
  have hl : lv_has ls 1 [(0, .int (nI d))] := hl
  refine lv_iload_n hx hb dX2_checkSum_0 rfl (lv_at hl 0 rfl) ?_
  refine lv_if_lt (tgt := 11) hx hb dX2_checkSum_1 (by decide) (fun c1 => ?_) (fun c1 => ?_)
  · skip
    exact absurd c1 (nI_pos (by omega))
  · skip
    refine lv_iload_n hx hb dX2_checkSum_4 rfl (lv_at hl 0 rfl) ?_
    refine lv_sipush (v := nI 997) hx hb dX2_checkSum_5 (by decide) ?_
    refine mv_lt (tgt := 21) hx hb (by omega) (by omega) dX2_checkSum_8 (by decide) (fun c2 => ?_) (fun c2 => ?_)
    · skip
      exact mx_vret hx hb hr hE hlocks rfl dX2_checkSum_21
    · skip
      exfalso; omega

set_option maxHeartbeats 4000000 in
set_option maxRecDepth 100000 in
/-- checkSum throws -/
theorem x_X2_checkSum (l : Launch) (hst : l.stackTraces = false) (G : va_G) (cy : Nat → ClassId) (ad : Nat → Nat) (M : mC) (sz : Nat) (x : Int32) (hbad : x < 0 ∨ nI 997 ≤ x) : mMx l yX2_checkSum wsX2_checkSum ({ frames := 7, cells := 1, slots := 6, locals := 100 }) G cy ad (M) sz [.int x] 1 6 "java/lang/IllegalArgumentException" := by
  refine vx_ofW (cc := cX2_checkSum) (maxL := 1) (ret := none) (by decide) rfl ?_
  intro p e s m args below meth c s₁ B hml hnt hv
  obtain ⟨rfl, hv⟩ := hv
  have hsz := hv.1
  subst hsz
  have hN := hv.2.2
  have hE := mP_E hv
  have hx := B.exec
  have hb := B.bytes
  have hr := B.returns
  have hts := atoms_spec (ws := wsX2_checkSum) B.pre
  have hown : s.vm.findClass RX2 = some m.cls := findClass_of_methodNamed B.named
  have hlocks := B.notSynchronized
  have hl := lv_entry ([.int x]) (n := 1) (Nat.le_of_ble_eq_true rfl)
  rw [lg_entry_eq]
  generalize (lg_sl ([.int x]) ++ List.replicate (1 - (lg_sl ([.int x])).length) Slot.unset).toArray = ls at hl ⊢
  have hl : lv_has ls 1 [(0, .int x)] := hl
  refine lv_iload_n hx hb dX2_checkSum_0 rfl (lv_at hl 0 rfl) ?_
  refine lv_if_lt (tgt := 11) hx hb dX2_checkSum_1 (by decide) (fun c1 => ?_) (fun c1 => ?_)
  · skip
    obtain ⟨sa, hsa⟩ := hN.2.2.2.1 (195, "a sum of a proof is not 0 to 996") (by decide +kernel)
    exact mx_throw hx hb hst hown (cls := "java/lang/IllegalArgumentException") (by decide +kernel) (hts (.classLink RX2 190 "java/lang/IllegalArgumentException") (by decide +kernel)) (hts (.initialized "java/lang/IllegalArgumentException") (by decide +kernel)) hsa (vx_hat (fun w hw => hts w ((fun w hw => List.mem_cons_of_mem _ (List.mem_append_right _ hw)) w hw)) (B := [.castable "java/lang/IllegalArgumentException" "java/lang/IllegalArgumentException", .declares ⟨"java/lang/RuntimeException", "<init>", "(Ljava/lang/String;)V"⟩, .declares ⟨"java/lang/Exception", "<init>", "(Ljava/lang/String;)V"⟩, .declares ⟨"java/lang/Throwable", "<init>", "(Ljava/lang/String;)V"⟩]) (by decide +kernel) (vx_c (va_Nw.use rfl (hN.2.1 _ (by decide +kernel))) (vx_c (va_Nw.use rfl (hN.2.1 _ (by decide +kernel))) (vx_c (va_Nw.use rfl (hN.2.1 _ (by decide +kernel))) (vx_c (va_Nw.use rfl (hN.2.1 _ (by decide +kernel))) vx_n))))) (by decide +kernel) hN hE (hl.1.trans hml.symm) dX2_checkSum_11 dX2_checkSum_14 dX2_checkSum_15 dX2_checkSum_17 dX2_checkSum_20 hnt (Nat.le_of_ble_eq_true rfl) (Nat.le_of_ble_eq_true rfl) (Nat.le_of_ble_eq_true rfl) (Nat.le_of_ble_eq_true rfl) hlocks (Nat.le_of_ble_eq_true rfl) (Nat.le_of_ble_eq_true rfl)
  · skip
    refine lv_iload_n hx hb dX2_checkSum_4 rfl (lv_at hl 0 rfl) ?_
    refine lv_sipush (v := nI 997) hx hb dX2_checkSum_5 (by decide) ?_
    refine lv_icmp_lt (tgt := 21) hx hb dX2_checkSum_8 (by decide) (fun c2 => ?_) (fun c2 => ?_)
    · skip
      exact absurd c2 (by rcases hbad with h | h; exact absurd h c1; exact Int32.not_lt.mpr h)
    · skip
      obtain ⟨sa, hsa⟩ := hN.2.2.2.1 (195, "a sum of a proof is not 0 to 996") (by decide +kernel)
      exact mx_throw hx hb hst hown (cls := "java/lang/IllegalArgumentException") (by decide +kernel) (hts (.classLink RX2 190 "java/lang/IllegalArgumentException") (by decide +kernel)) (hts (.initialized "java/lang/IllegalArgumentException") (by decide +kernel)) hsa (vx_hat (fun w hw => hts w ((fun w hw => List.mem_cons_of_mem _ (List.mem_append_right _ hw)) w hw)) (B := [.castable "java/lang/IllegalArgumentException" "java/lang/IllegalArgumentException", .declares ⟨"java/lang/RuntimeException", "<init>", "(Ljava/lang/String;)V"⟩, .declares ⟨"java/lang/Exception", "<init>", "(Ljava/lang/String;)V"⟩, .declares ⟨"java/lang/Throwable", "<init>", "(Ljava/lang/String;)V"⟩]) (by decide +kernel) (vx_c (va_Nw.use rfl (hN.2.1 _ (by decide +kernel))) (vx_c (va_Nw.use rfl (hN.2.1 _ (by decide +kernel))) (vx_c (va_Nw.use rfl (hN.2.1 _ (by decide +kernel))) (vx_c (va_Nw.use rfl (hN.2.1 _ (by decide +kernel))) vx_n))))) (by decide +kernel) hN hE (hl.1.trans hml.symm) dX2_checkSum_11 dX2_checkSum_14 dX2_checkSum_15 dX2_checkSum_17 dX2_checkSum_20 hnt (Nat.le_of_ble_eq_true rfl) (Nat.le_of_ble_eq_true rfl) (Nat.le_of_ble_eq_true rfl) (Nat.le_of_ble_eq_true rfl) hlocks (Nat.le_of_ble_eq_true rfl) (Nat.le_of_ble_eq_true rfl)

set_option maxHeartbeats 4000000 in
set_option maxRecDepth 100000 in
/-- findCupboard throws -/
theorem x_X2_findCupboard (l : Launch) (hst : l.stackTraces = false) (G : va_G) (cy : Nat → ClassId) (ad : Nat → Nat) (n k : Nat) (v : Nat → Nat → Int32) (o : Nat → Int64) (hn : n ≤ 6) (hk : k ≤ 20) (sz : Nat) (x : Int32) (hbad : x < 0 ∨ nI n ≤ x) : mMx l yX2_findCupboard wsX2_findCupboard ({ frames := 7, cells := 1, slots := 6, locals := 100 }) G cy ad (Sy cy ad n k v o) sz [.ref (ad 0), .int x] 1 6 "java/lang/IndexOutOfBoundsException" := by
  refine vx_ofW (cc := cX2_findCupboard) (maxL := 2) (ret := (some (.object "SealedCupboards$Cupboard"))) (by decide) rfl ?_
  intro p e s m args below meth c s₁ B hml hnt hv
  obtain ⟨rfl, hv⟩ := hv
  have hsz := hv.1
  subst hsz
  have hN := hv.2.2
  have hE := mP_E hv
  have hx := B.exec
  have hb := B.bytes
  have hr := B.returns
  have hts := atoms_spec (ws := wsX2_findCupboard) B.pre
  have hown : s.vm.findClass RX2 = some m.cls := findClass_of_methodNamed B.named
  have hlocks := B.notSynchronized
  have hiX2 : ∀ w ∈ wsX20, w ∈ wsX2_findCupboard := by decide +kernel
  have hl := lv_entry ([.ref (ad 0), .int x]) (n := 2) (Nat.le_of_ble_eq_true rfl)
  rw [lg_entry_eq]
  generalize (lg_sl ([.ref (ad 0), .int x]) ++ List.replicate (2 - (lg_sl ([.ref (ad 0), .int x])).length) Slot.unset).toArray = ls at hl ⊢
  have hl : lv_has ls 2 [(0, .ref (ad 0)), (1, .int x)] := hl
  refine lv_iload_n hx hb dX2_findCupboard_0 rfl (lv_at hl 1 rfl) ?_
  refine lv_if_lt (tgt := 12) hx hb dX2_findCupboard_1 (by decide) (fun c1 => ?_) (fun c1 => ?_)
  · skip
    obtain ⟨sa, hsa⟩ := hN.2.2.2.1 (171, "there is no such cupboard") (by decide +kernel)
    exact mx_throw hx hb hst hown (cls := "java/lang/IndexOutOfBoundsException") (by decide +kernel) (hts (.classLink RX2 68 "java/lang/IndexOutOfBoundsException") (by decide +kernel)) (hts (.initialized "java/lang/IndexOutOfBoundsException") (by decide +kernel)) hsa (vx_hat (fun w hw => hts w ((fun w hw => List.mem_cons_of_mem _ (List.mem_append_right _ hw)) w hw)) (B := [.castable "java/lang/IndexOutOfBoundsException" "java/lang/IndexOutOfBoundsException", .declares ⟨"java/lang/RuntimeException", "<init>", "(Ljava/lang/String;)V"⟩, .declares ⟨"java/lang/Exception", "<init>", "(Ljava/lang/String;)V"⟩, .declares ⟨"java/lang/Throwable", "<init>", "(Ljava/lang/String;)V"⟩]) (by decide +kernel) (vx_c (va_Nw.use rfl (hN.2.1 _ (by decide +kernel))) (vx_c (va_Nw.use rfl (hN.2.1 _ (by decide +kernel))) (vx_c (va_Nw.use rfl (hN.2.1 _ (by decide +kernel))) (vx_c (va_Nw.use rfl (hN.2.1 _ (by decide +kernel))) vx_n))))) (by decide +kernel) hN hE (hl.1.trans hml.symm) dX2_findCupboard_12 dX2_findCupboard_15 dX2_findCupboard_16 dX2_findCupboard_18 dX2_findCupboard_21 hnt (Nat.le_of_ble_eq_true rfl) (Nat.le_of_ble_eq_true rfl) (Nat.le_of_ble_eq_true rfl) (Nat.le_of_ble_eq_true rfl) hlocks (Nat.le_of_ble_eq_true rfl) (Nat.le_of_ble_eq_true rfl)
  · skip
    refine lv_iload_n hx hb dX2_findCupboard_4 rfl (lv_at hl 1 rfl) ?_
    refine lv_aload_n hx hb dX2_findCupboard_5 rfl (lv_at hl 0 rfl) ?_
    refine va_get (D := G) (ci := 2) (v := .int (nI n)) (C := RX2) (T := TX2) (N := 5) hx hb hts hiX2 hown hN.1 (mE_P1 hE S_0) 0 rfl rfl 3 (by decide) (hts (.fieldLink RX2 25 "SealedCupboards" "cupboardCount" "I") (by decide +kernel)) (fun _ h9 => h9) rfl dX2_findCupboard_6 ?_
    refine lv_icmp_lt (tgt := 22) hx hb dX2_findCupboard_9 (by decide) (fun c2 => ?_) (fun c2 => ?_)
    · skip
      exact absurd c2 (by rcases hbad with h | h; exact absurd h c1; exact Int32.not_lt.mpr h)
    · skip
      obtain ⟨sa, hsa⟩ := hN.2.2.2.1 (171, "there is no such cupboard") (by decide +kernel)
      exact mx_throw hx hb hst hown (cls := "java/lang/IndexOutOfBoundsException") (by decide +kernel) (hts (.classLink RX2 68 "java/lang/IndexOutOfBoundsException") (by decide +kernel)) (hts (.initialized "java/lang/IndexOutOfBoundsException") (by decide +kernel)) hsa (vx_hat (fun w hw => hts w ((fun w hw => List.mem_cons_of_mem _ (List.mem_append_right _ hw)) w hw)) (B := [.castable "java/lang/IndexOutOfBoundsException" "java/lang/IndexOutOfBoundsException", .declares ⟨"java/lang/RuntimeException", "<init>", "(Ljava/lang/String;)V"⟩, .declares ⟨"java/lang/Exception", "<init>", "(Ljava/lang/String;)V"⟩, .declares ⟨"java/lang/Throwable", "<init>", "(Ljava/lang/String;)V"⟩]) (by decide +kernel) (vx_c (va_Nw.use rfl (hN.2.1 _ (by decide +kernel))) (vx_c (va_Nw.use rfl (hN.2.1 _ (by decide +kernel))) (vx_c (va_Nw.use rfl (hN.2.1 _ (by decide +kernel))) (vx_c (va_Nw.use rfl (hN.2.1 _ (by decide +kernel))) vx_n))))) (by decide +kernel) hN hE (hl.1.trans hml.symm) dX2_findCupboard_12 dX2_findCupboard_15 dX2_findCupboard_16 dX2_findCupboard_18 dX2_findCupboard_21 hnt (Nat.le_of_ble_eq_true rfl) (Nat.le_of_ble_eq_true rfl) (Nat.le_of_ble_eq_true rfl) (Nat.le_of_ble_eq_true rfl) hlocks (Nat.le_of_ble_eq_true rfl) (Nat.le_of_ble_eq_true rfl)

set_option maxHeartbeats 4000000 in
set_option maxRecDepth 100000 in
/-- findSeal throws -/
theorem x_X2_findSeal (l : Launch) (hst : l.stackTraces = false) (G : va_G) (cy : Nat → ClassId) (ad : Nat → Nat) (n k : Nat) (v : Nat → Nat → Int32) (o : Nat → Int64) (hn : n ≤ 6) (hk : k ≤ 20) (sz : Nat) (x : Int32) (hbad : x < 0 ∨ nI k ≤ x) : mMx l yX2_findSeal wsX2_findSeal ({ frames := 7, cells := 1, slots := 6, locals := 100 }) G cy ad (Sy cy ad n k v o) sz [.ref (ad 0), .int x] 1 6 "java/lang/IndexOutOfBoundsException" := by
  refine vx_ofW (cc := cX2_findSeal) (maxL := 2) (ret := (some (.object "SealedCupboards$Seal"))) (by decide) rfl ?_
  intro p e s m args below meth c s₁ B hml hnt hv
  obtain ⟨rfl, hv⟩ := hv
  have hsz := hv.1
  subst hsz
  have hN := hv.2.2
  have hE := mP_E hv
  have hx := B.exec
  have hb := B.bytes
  have hr := B.returns
  have hts := atoms_spec (ws := wsX2_findSeal) B.pre
  have hown : s.vm.findClass RX2 = some m.cls := findClass_of_methodNamed B.named
  have hlocks := B.notSynchronized
  have hiX2 : ∀ w ∈ wsX20, w ∈ wsX2_findSeal := by decide +kernel
  have hl := lv_entry ([.ref (ad 0), .int x]) (n := 2) (Nat.le_of_ble_eq_true rfl)
  rw [lg_entry_eq]
  generalize (lg_sl ([.ref (ad 0), .int x]) ++ List.replicate (2 - (lg_sl ([.ref (ad 0), .int x])).length) Slot.unset).toArray = ls at hl ⊢
  have hl : lv_has ls 2 [(0, .ref (ad 0)), (1, .int x)] := hl
  refine lv_iload_n hx hb dX2_findSeal_0 rfl (lv_at hl 1 rfl) ?_
  refine lv_if_lt (tgt := 12) hx hb dX2_findSeal_1 (by decide) (fun c1 => ?_) (fun c1 => ?_)
  · skip
    obtain ⟨sa, hsa⟩ := hN.2.2.2.1 (173, "there is no such seal") (by decide +kernel)
    exact mx_throw hx hb hst hown (cls := "java/lang/IndexOutOfBoundsException") (by decide +kernel) (hts (.classLink RX2 68 "java/lang/IndexOutOfBoundsException") (by decide +kernel)) (hts (.initialized "java/lang/IndexOutOfBoundsException") (by decide +kernel)) hsa (vx_hat (fun w hw => hts w ((fun w hw => List.mem_cons_of_mem _ (List.mem_append_right _ hw)) w hw)) (B := [.castable "java/lang/IndexOutOfBoundsException" "java/lang/IndexOutOfBoundsException", .declares ⟨"java/lang/RuntimeException", "<init>", "(Ljava/lang/String;)V"⟩, .declares ⟨"java/lang/Exception", "<init>", "(Ljava/lang/String;)V"⟩, .declares ⟨"java/lang/Throwable", "<init>", "(Ljava/lang/String;)V"⟩]) (by decide +kernel) (vx_c (va_Nw.use rfl (hN.2.1 _ (by decide +kernel))) (vx_c (va_Nw.use rfl (hN.2.1 _ (by decide +kernel))) (vx_c (va_Nw.use rfl (hN.2.1 _ (by decide +kernel))) (vx_c (va_Nw.use rfl (hN.2.1 _ (by decide +kernel))) vx_n))))) (by decide +kernel) hN hE (hl.1.trans hml.symm) dX2_findSeal_12 dX2_findSeal_15 dX2_findSeal_16 dX2_findSeal_18 dX2_findSeal_21 hnt (Nat.le_of_ble_eq_true rfl) (Nat.le_of_ble_eq_true rfl) (Nat.le_of_ble_eq_true rfl) (Nat.le_of_ble_eq_true rfl) hlocks (Nat.le_of_ble_eq_true rfl) (Nat.le_of_ble_eq_true rfl)
  · skip
    refine lv_iload_n hx hb dX2_findSeal_4 rfl (lv_at hl 1 rfl) ?_
    refine lv_aload_n hx hb dX2_findSeal_5 rfl (lv_at hl 0 rfl) ?_
    refine va_get (D := G) (ci := 2) (v := .int (nI k)) (C := RX2) (T := TX2) (N := 5) hx hb hts hiX2 hown hN.1 (mE_P1 hE S_0) 0 rfl rfl 4 (by decide) (hts (.fieldLink RX2 97 "SealedCupboards" "sealCount" "I") (by decide +kernel)) (fun _ h9 => h9) rfl dX2_findSeal_6 ?_
    refine lv_icmp_lt (tgt := 22) hx hb dX2_findSeal_9 (by decide) (fun c2 => ?_) (fun c2 => ?_)
    · skip
      exact absurd c2 (by rcases hbad with h | h; exact absurd h c1; exact Int32.not_lt.mpr h)
    · skip
      obtain ⟨sa, hsa⟩ := hN.2.2.2.1 (173, "there is no such seal") (by decide +kernel)
      exact mx_throw hx hb hst hown (cls := "java/lang/IndexOutOfBoundsException") (by decide +kernel) (hts (.classLink RX2 68 "java/lang/IndexOutOfBoundsException") (by decide +kernel)) (hts (.initialized "java/lang/IndexOutOfBoundsException") (by decide +kernel)) hsa (vx_hat (fun w hw => hts w ((fun w hw => List.mem_cons_of_mem _ (List.mem_append_right _ hw)) w hw)) (B := [.castable "java/lang/IndexOutOfBoundsException" "java/lang/IndexOutOfBoundsException", .declares ⟨"java/lang/RuntimeException", "<init>", "(Ljava/lang/String;)V"⟩, .declares ⟨"java/lang/Exception", "<init>", "(Ljava/lang/String;)V"⟩, .declares ⟨"java/lang/Throwable", "<init>", "(Ljava/lang/String;)V"⟩]) (by decide +kernel) (vx_c (va_Nw.use rfl (hN.2.1 _ (by decide +kernel))) (vx_c (va_Nw.use rfl (hN.2.1 _ (by decide +kernel))) (vx_c (va_Nw.use rfl (hN.2.1 _ (by decide +kernel))) (vx_c (va_Nw.use rfl (hN.2.1 _ (by decide +kernel))) vx_n))))) (by decide +kernel) hN hE (hl.1.trans hml.symm) dX2_findSeal_12 dX2_findSeal_15 dX2_findSeal_16 dX2_findSeal_18 dX2_findSeal_21 hnt (Nat.le_of_ble_eq_true rfl) (Nat.le_of_ble_eq_true rfl) (Nat.le_of_ble_eq_true rfl) (Nat.le_of_ble_eq_true rfl) hlocks (Nat.le_of_ble_eq_true rfl) (Nat.le_of_ble_eq_true rfl)
