set_option maxHeartbeats 4000000 in
set_option maxRecDepth 100000 in
/-- checkDrawer, where all is well -/
theorem c_X2_checkDrawer (l : Launch) (G : va_G) (cy : Nat → ClassId) (ad : Nat → Nat) (M : mC) (sz : Nat) (d : Nat) (hd : d < 16) : mMv l yX2_checkDrawer wsX2_checkDrawer ({ frames := 7, cells := 0, slots := 0, locals := 100 }) G cy ad (M) sz [.int (nI d)] 0 0 (fun u => u = (ad, M)) := by
  refine Met.ofW (cc := cX2_checkDrawer) (maxL := 1) (ret := none) (by decide) rfl ?_
  intro p e s m args below meth c s₁ B hml hv
  obtain ⟨rfl, hv⟩ := hv
  have hsz := hv.1
  subst hsz
  have hN := hv.2.2
  have hE := mP_E hv
  have hx := B.exec
  have hb := B.bytes
  have hr := B.returns
  have hts := atoms_spec (ws := wsX2_checkDrawer) B.pre
  have hown : s.vm.findClass RX2 = some m.cls := findClass_of_methodNamed B.named
  have hlocks := B.notSynchronized
  have hl := lv_entry ([.int (nI d)]) (n := 1) (Nat.le_of_ble_eq_true rfl)
  rw [lg_entry_eq]
  generalize (lg_sl ([.int (nI d)]) ++ List.replicate (1 - (lg_sl ([.int (nI d)])).length) Slot.unset).toArray = ls at hl ⊢
  have hl : lv_has ls 1 [(0, .int (nI d))] := hl
  refine lv_iload_n hx hb dX2_checkDrawer_0 rfl (lv_at hl 0 rfl) ?_
  refine lv_if_lt (tgt := 10) hx hb dX2_checkDrawer_1 (by decide) (fun c1 => ?_) (fun c1 => ?_)
  · skip
    exact absurd c1 (nI_pos (by omega))
  · skip
    refine lv_iload_n hx hb dX2_checkDrawer_4 rfl (lv_at hl 0 rfl) ?_
    refine lv_bipush (v := nI 16) hx hb dX2_checkDrawer_5 (by decide) ?_
    refine mv_lt (tgt := 20) hx hb (by omega) (by omega) dX2_checkDrawer_7 (by decide) (fun c2 => ?_) (fun c2 => ?_)
    · skip
      exact mx_vret hx hb hr hE hlocks rfl dX2_checkDrawer_20
    · skip
      exfalso; omega

set_option maxHeartbeats 4000000 in
set_option maxRecDepth 100000 in
/-- checkWhat, where all is well -/
theorem c_X2_checkWhat (l : Launch) (G : va_G) (cy : Nat → ClassId) (ad : Nat → Nat) (M : mC) (sz : Nat) (d z : Nat) (hd : d < z) (hz : z < 100) : mMv l yX2_checkWhat wsX2_checkWhat ({ frames := 7, cells := 0, slots := 0, locals := 100 }) G cy ad (M) sz [.int (nI d), .int (nI z)] 0 0 (fun u => u = (ad, M)) := by
  refine Met.ofW (cc := cX2_checkWhat) (maxL := 2) (ret := none) (by decide) rfl ?_
  intro p e s m args below meth c s₁ B hml hv
  obtain ⟨rfl, hv⟩ := hv
  have hsz := hv.1
  subst hsz
  have hN := hv.2.2
  have hE := mP_E hv
  have hx := B.exec
  have hb := B.bytes
  have hr := B.returns
  have hts := atoms_spec (ws := wsX2_checkWhat) B.pre
  have hown : s.vm.findClass RX2 = some m.cls := findClass_of_methodNamed B.named
  have hlocks := B.notSynchronized
  have hl := lv_entry ([.int (nI d), .int (nI z)]) (n := 2) (Nat.le_of_ble_eq_true rfl)
  rw [lg_entry_eq]
  generalize (lg_sl ([.int (nI d), .int (nI z)]) ++ List.replicate (2 - (lg_sl ([.int (nI d), .int (nI z)])).length) Slot.unset).toArray = ls at hl ⊢
  have hl : lv_has ls 2 [(0, .int (nI d)), (1, .int (nI z))] := hl
  refine lv_iload_n hx hb dX2_checkWhat_0 rfl (lv_at hl 0 rfl) ?_
  refine lv_if_lt (tgt := 9) hx hb dX2_checkWhat_1 (by decide) (fun c1 => ?_) (fun c1 => ?_)
  · skip
    exact absurd c1 (nI_pos (by omega))
  · skip
    refine lv_iload_n hx hb dX2_checkWhat_4 rfl (lv_at hl 0 rfl) ?_
    refine lv_iload_n hx hb dX2_checkWhat_5 rfl (lv_at hl 1 rfl) ?_
    refine mv_lt (tgt := 19) hx hb (by omega) (by omega) dX2_checkWhat_6 (by decide) (fun c2 => ?_) (fun c2 => ?_)
    · skip
      exact mx_vret hx hb hr hE hlocks rfl dX2_checkWhat_19
    · skip
      exfalso; omega

set_option maxHeartbeats 4000000 in
set_option maxRecDepth 100000 in
/-- checkThing, where all is well -/
theorem c_X2_checkThing (l : Launch) (G : va_G) (cy : Nat → ClassId) (ad : Nat → Nat) (M : mC) (sz : Nat) (d : Nat) (hd : d < 10000) : mMv l yX2_checkThing wsX2_checkThing ({ frames := 7, cells := 0, slots := 0, locals := 100 }) G cy ad (M) sz [.int (nI d)] 0 0 (fun u => u = (ad, M)) := by
  refine Met.ofW (cc := cX2_checkThing) (maxL := 1) (ret := none) (by decide) rfl ?_
  intro p e s m args below meth c s₁ B hml hv
  obtain ⟨rfl, hv⟩ := hv
  have hsz := hv.1
  subst hsz
  have hN := hv.2.2
  have hE := mP_E hv
  have hx := B.exec
  have hb := B.bytes
  have hr := B.returns
  have hts := atoms_spec (ws := wsX2_checkThing) B.pre
  have hown : s.vm.findClass RX2 = some m.cls := findClass_of_methodNamed B.named
  have hlocks := B.notSynchronized
  have hl := lv_entry ([.int (nI d)]) (n := 1) (Nat.le_of_ble_eq_true rfl)
  rw [lg_entry_eq]
  generalize (lg_sl ([.int (nI d)]) ++ List.replicate (1 - (lg_sl ([.int (nI d)])).length) Slot.unset).toArray = ls at hl ⊢
  have hl : lv_has ls 1 [(0, .int (nI d))] := hl
  refine lv_iload_n hx hb dX2_checkThing_0 rfl (lv_at hl 0 rfl) ?_
  refine lv_if_lt (tgt := 11) hx hb dX2_checkThing_1 (by decide) (fun c1 => ?_) (fun c1 => ?_)
  · skip
    exact absurd c1 (nI_pos (by omega))
  · skip
    refine lv_iload_n hx hb dX2_checkThing_4 rfl (lv_at hl 0 rfl) ?_
    refine lv_sipush (v := nI 9999) hx hb dX2_checkThing_5 (by decide) ?_
    refine mv_le (tgt := 21) hx hb (by omega) (by omega) dX2_checkThing_8 (by decide) (fun c2 => ?_) (fun c2 => ?_)
    · skip
      exact mx_vret hx hb hr hE hlocks rfl dX2_checkThing_21
    · skip
      exfalso; omega

set_option maxHeartbeats 4000000 in
set_option maxRecDepth 100000 in
/-- checkSum, where all is well -/
theorem c_X2_checkSum (l : Launch) (G : va_G) (cy : Nat → ClassId) (ad : Nat → Nat) (M : mC) (sz : Nat) (d : Nat) (hd : d < 997) : mMv l yX2_checkSum wsX2_checkSum ({ frames := 7, cells := 0, slots := 0, locals := 100 }) G cy ad (M) sz [.int (nI d)] 0 0 (fun u => u = (ad, M)) := by
  refine Met.ofW (cc := cX2_checkSum) (maxL := 1) (ret := none) (by decide) rfl ?_
  intro p e s m args below meth c s₁ B hml hv
  obtain ⟨rfl, hv⟩ := hv
  have hsz := hv.1
  subst hsz
  have hN := hv.2.2
  have hE := mP_E hv
  have hx := B.exec
  have hb := B.bytes
  have hr := B.returns
  have hts := atoms_spec (ws := wsX2_checkSum) B.pre
  have hown : s.vm.findClass RX2 = some m.cls := findClass_of_methodNamed B.named
  have hlocks := B.notSynchronized
  have hl := lv_entry ([.int (nI d)]) (n := 1) (Nat.le_of_ble_eq_true rfl)
  rw [lg_entry_eq]
  generalize (lg_sl ([.int (nI d)]) ++ List.replicate (1 - (lg_sl ([.int (nI d)])).length) Slot.unset).toArray = ls at hl ⊢
  have hl : lv_has ls 1 [(0, .int (nI d))] := hl
  refine lv_iload_n hx hb dX2_checkSum_0 rfl (lv_at hl 0 rfl) ?_
  refine lv_if_lt (tgt := 11) hx hb dX2_checkSum_1 (by decide) (fun c1 => ?_) (fun c1 => ?_)
  · skip
    exact absurd c1 (nI_pos (by omega))
  · skip
    refine lv_iload_n hx hb dX2_checkSum_4 rfl (lv_at hl 0 rfl) ?_
    refine lv_sipush (v := nI 997) hx hb dX2_checkSum_5 (by decide) ?_
    refine mv_lt (tgt := 21) hx hb (by omega) (by omega) dX2_checkSum_8 (by decide) (fun c2 => ?_) (fun c2 => ?_)
    · skip
      exact mx_vret hx hb hr hE hlocks rfl dX2_checkSum_21
    · skip
      exfalso; omega
