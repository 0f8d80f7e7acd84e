set_option maxHeartbeats 4000000 in
set_option maxRecDepth 100000 in
/-- a step of the law: come -/
theorem st_come {p : Program} {l : Launch} {e : Env} {s : State} {m : MethodId} {below : List Frame} {meth : Method} {c : Code} {Q : State → Prop} {b L : Nat} {xs : Nat → Int32} (hx : p.tables.exec = Jvm.exec) (hb : c.code = cL_law) (hml : c.maxLocals = 9) (hown : s.vm.findClass RL = some m.cls) (hts : ∀ w ∈ wsL_law, w.before #[Value.ref b] s = true) (hX : va_X b L xs s s.heap) (hbl : b < s.heap.size) (hL : L ≤ 3584) {G : va_G} {cy : Nat → ClassId} (hN : mN G cy (lA s) s) {ad : Nat → Nat} {n k : Nat} {v : Nat → Nat → Int32} {o : Nat → Int64} {i : Nat} (hi : i + 7 ≤ L) {H : Heap} {locs : List Loc} {cells slots : Nat} (hcells : cells + 4 ≤ 601024) (hslots : slots + 60 ≤ 7293034) {ls : Array Slot} (hE : mE G (lA s) s.heap ad (Sy cy ad n k v o) H locs) (hl : lv_has ls 9 [(4, .int (nI i)), (3, .ref (ad 12)), (2, .ref (ad 4)), (1, .ref (ad 0)), (0, .ref b)]) {mc ms : Nat} (hmc : mc ≤ 4) (hms : ms ≤ 60) (hLc : mMi l yL_come wsL_come ({ frames := 10, cells := mc, slots := ms, locals := 220 }) G cy ad (Sy cy ad n k v o) H.size [.ref (ad 0), .ref (ad 12)] mc ms (fun (r : Int32) u => ∃ (t n' k' : Nat) (ad' : Nat → Nat) (v' : Nat → Nat → Int32) (o' : Nat → Int64), t ≤ 2 ∧ n' ≤ 6 ∧ k' ≤ 20 ∧ r = nI t ∧ u = (ad', Sy cy ad' n' k' v' o') ∧ ad' 0 = ad 0 ∧ ad' 4 = ad 4 ∧ ad' 12 = ad 12 ∧ ∀ sz' : Nat, mMi l yX3_come wsX3_come ({ frames := 8, cells := 0, slots := 0, locals := 140 }) G cy ad' (Sy cy ad' n' k' v' o') sz' [.ref (ad' 4)] 0 0 (fun (r2 : Int32) u2 => ∃ v2 : Nat → Nat → Int32, u2 = (ad', Sy cy ad' n' k' v2 o') ∧ v2 4 0 = nI t ∧ (t = 0 → o' 0 = r2.toInt64) ∧ ∃ cs, mInv n' k' v2 cs))) (kk : ∀ (ad' : Nat → Nat) (n' k' : Nat) (v2 : Nat → Nat → Int32) (o' : Nat → Int64) (H' : Heap) (locs' : List Loc) (ls' : Array Slot), (∃ cs, mInv n' k' v2 cs) → mE G (lA s) s.heap ad' (Sy cy ad' n' k' v2 o') H' locs' → lv_has ls' 9 [(4, .int (nI i)), (3, .ref (ad' 12)), (2, .ref (ad' 4)), (1, .ref (ad' 0)), (0, .ref b)] → W p l e room_1 s m #[Value.ref b] below meth c H' locs' (cells + mc) (slots + ms) Q (F0 m 1316 ls' [])) : W p l e room_1 s m #[Value.ref b] below meth c H locs cells slots Q (F0 m 128 ls []) := by
  refine lv_aload_n hx hb dL_law_128 rfl (lv_at hl 3 rfl) ?_
  refine lv_aload_n hx hb dL_law_129 rfl (lv_at hl 1 rfl) ?_
  refine va_calli (vx_runSW (As := [.ref (ad 0), .ref (ad 12)]) (rest := []) ⟨hx, hb, hml, hown, hts⟩ hLc (vx_cwSW 2 hts gL_law_L_come rfl rfl rfl (by decide +kernel) ⟨Nat.le_of_ble_eq_true rfl, Nat.le_of_ble_eq_true rfl⟩) (mP_S hN hE) rfl rfl hl.1 rfl (lv_room (Nat.le_of_ble_eq_true rfl)) dL_law_130 ⟨by show _ ≤ 601024; omega, by show _ ≤ 7293034; omega⟩) hE.2.2.2 (fun q _ h => mE_A hE q h) (mE_A hE) (fun r uq tq H locs ht hvm hw hB hz1 hk1 hS => ?_)
  obtain ⟨t, n', k', ad', v', o', ht2, hn', hk', rfl, rfl, ea0, ea4, ea12, hM⟩ := hw
  have hE : mE G (lA s) s.heap ad' (Sy cy ad' n' k' v' o') H locs := mE_call hE hB ht hS
  rw [← ea12, ← ea4, ← ea0] at hl
  refine lv_istore (lv' := [(5, .int (nI t)), (4, .int (nI i)), (3, .ref (ad' 12)), (2, .ref (ad' 4)), (1, .ref (ad' 0)), (0, .ref b)]) hx hb dL_law_133 hl (by decide) rfl (fun ls hl => ?_)
  refine lv_aload_n hx hb dL_law_135 rfl (lv_at hl 3 rfl) ?_
  refine va_calli (va_runV (As := []) (rest := []) ⟨hx, hb, hml, hown, hts⟩ (hM H.size) (cwV 0 hts gL_law_X3_come rfl rfl rfl (by decide +kernel) ⟨Nat.le_of_ble_eq_true rfl, Nat.le_of_ble_eq_true rfl⟩) (mP_V (r := (RX3, TX3, 11)) hN hE S_4 rfl) rfl rfl hl.1 rfl (lv_room (Nat.le_of_ble_eq_true rfl)) dL_law_136 ⟨by show _ ≤ 601024; omega, by show _ ≤ 7293034; omega⟩) hE.2.2.2 (fun q _ h => mE_A hE q h) (mE_A hE) (fun r2 uq tq H locs ht hvm hw hB hz1 hk1 hS => ?_)
  obtain ⟨v2, rfl, e0, eo, cs, hI⟩ := hw
  have hE : mE G (lA s) s.heap ad' (Sy cy ad' n' k' v2 o') H locs := mE_call hE hB ht hS
  refine lv_istore (lv' := [(6, .int r2), (5, .int (nI t)), (4, .int (nI i)), (3, .ref (ad' 12)), (2, .ref (ad' 4)), (1, .ref (ad' 0)), (0, .ref b)]) hx hb dL_law_139 hl (by decide) rfl (fun ls hl => ?_)
  refine lv_aload_n hx hb dL_law_141 rfl (lv_at hl 4 rfl) ?_
  refine va_calli (va_runV (As := []) (rest := []) ⟨hx, hb, hml, hown, hts⟩ (c_X3_thrown l G cy ad' n' k' n' k' v2 o' hn' hk' _ hI.2.2.1 hI.2.2.2.1) (cwV 0 hts gL_law_X3_thrown rfl rfl rfl (by decide +kernel) ⟨Nat.le_of_ble_eq_true rfl, Nat.le_of_ble_eq_true rfl⟩) (mP_V (r := (RX3, TX3, 11)) hN hE S_4 rfl) rfl rfl hl.1 rfl (lv_room (Nat.le_of_ble_eq_true rfl)) dL_law_142 ⟨by show _ ≤ 601024; omega, by show _ ≤ 7293034; omega⟩) hE.2.2.2 (fun q _ h => mE_A hE q h) (mE_A hE) (fun r3 uq tq H locs ht hvm hw hB hz1 hk1 hS => ?_)
  obtain ⟨rfl, rfl⟩ := hw
  have hE : mE G (lA s) s.heap ad' (Sy cy ad' n' k' v2 o') H locs := mE_call hE hB ht hS
  rw [e0]
  refine lv_iload hx hb dL_law_145 (lv_at hl 1 rfl) ?_
  refine mv_eq (tgt := 152) hx hb (by omega) (by omega) dL_law_147 (by decide) (fun c1 => ?_) (fun c1 => ?_)
  · skip
    refine lv_iload hx hb dL_law_152 (lv_at hl 1 rfl) ?_
    refine lv_if_ne (tgt := 169) hx hb dL_law_154 (by decide) (fun c2 => ?_) (fun c2 => ?_)
    · skip
      have c2 : ¬ t = 0 := fun h9 => c2 ((mz_eq (by omega)).mpr h9)
      refine lv_goto (tgt := 1316) hx hb dL_law_169 (by decide) ?_
      exact kk ad' n' k' v2 o' _ _ _ ⟨cs, hI⟩ hE (lv_sub hl [2, 3, 4, 5, 6] rfl)
    · skip
      have c2 := (mz_eq (by omega)).mp c2
      refine lv_aload_n hx hb dL_law_157 rfl (lv_at hl 3 rfl) ?_
      refine lv_iconst (v := nI 0) hx hb dL_law_158 (by decide) ?_
      refine mx_lald hx hb hN hE S_12 (j := 0) rfl (by decide) (by decide) dL_law_159 ?_
      refine lv_iload hx hb dL_law_160 (lv_at hl 0 rfl) ?_
      refine lv_i2l hx hb dL_law_162 rfl ?_
      rw [eo c2]
      refine W.lcmp hx hb dL_law_163 ?_
      rw [lg_same]
      refine lv_if_eq (tgt := 169) hx hb dL_law_164 (by decide) (fun c3 => ?_) (fun c3 => ?_)
      · skip
        refine lv_goto (tgt := 1316) hx hb dL_law_169 (by decide) ?_
        exact kk ad' n' k' v2 o' _ _ _ ⟨cs, hI⟩ hE (lv_sub hl [2, 3, 4, 5, 6] rfl)
      · skip
        exact absurd rfl c3
  · skip
    exact absurd rfl c1

set_option maxHeartbeats 4000000 in
set_option maxRecDepth 100000 in
/-- a step of the law: put -/
theorem st_put {p : Program} {l : Launch} {e : Env} {s : State} {m : MethodId} {below : List Frame} {meth : Method} {c : Code} {Q : State → Prop} {b L : Nat} {xs : Nat → Int32} (hx : p.tables.exec = Jvm.exec) (hb : c.code = cL_law) (hml : c.maxLocals = 9) (hown : s.vm.findClass RL = some m.cls) (hts : ∀ w ∈ wsL_law, w.before #[Value.ref b] s = true) (hX : va_X b L xs s s.heap) (hbl : b < s.heap.size) (hL : L ≤ 3584) {G : va_G} {cy : Nat → ClassId} (hN : mN G cy (lA s) s) {ad : Nat → Nat} {n k : Nat} {v : Nat → Nat → Int32} {o : Nat → Int64} {i : Nat} (hi : i + 7 ≤ L) {H : Heap} {locs : List Loc} {cells slots : Nat} (hcells : cells + 4 ≤ 601024) (hslots : slots + 60 ≤ 7293034) {ls : Array Slot} (hE : mE G (lA s) s.heap ad (Sy cy ad n k v o) H locs) (hl : lv_has ls 9 [(4, .int (nI i)), (3, .ref (ad 12)), (2, .ref (ad 4)), (1, .ref (ad 0)), (0, .ref b)]) {mc ms : Nat} (hmc : mc ≤ 4) (hms : ms ≤ 60) (hLc : mMi l yL_put wsL_put ({ frames := 11, cells := mc, slots := ms, locals := 260 }) G cy ad (Sy cy ad n k v o) H.size [.ref (ad 0), .int (xs (i + 1)), .int (xs (i + 2)), .int (xs (i + 3)), .ref (ad 12)] mc ms (fun (r : Int32) u => ∃ (t n' k' : Nat) (ad' : Nat → Nat) (v' : Nat → Nat → Int32) (o' : Nat → Int64), t ≤ 2 ∧ n' ≤ 6 ∧ k' ≤ 20 ∧ r = nI t ∧ u = (ad', Sy cy ad' n' k' v' o') ∧ ad' 0 = ad 0 ∧ ad' 4 = ad 4 ∧ ad' 12 = ad 12 ∧ ∀ sz' : Nat, mMi l yX3_put wsX3_put ({ frames := 9, cells := 0, slots := 0, locals := 180 }) G cy ad' (Sy cy ad' n' k' v' o') sz' [.ref (ad' 4), .int (xs (i + 1)), .int (xs (i + 2)), .int (xs (i + 3))] 0 0 (fun (r2 : Int32) u2 => ∃ v2 : Nat → Nat → Int32, u2 = (ad', Sy cy ad' n' k' v2 o') ∧ v2 4 0 = nI t ∧ (t = 0 → o' 0 = r2.toInt64) ∧ ∃ cs, mInv n' k' v2 cs))) (kk : ∀ (ad' : Nat → Nat) (n' k' : Nat) (v2 : Nat → Nat → Int32) (o' : Nat → Int64) (H' : Heap) (locs' : List Loc) (ls' : Array Slot), (∃ cs, mInv n' k' v2 cs) → mE G (lA s) s.heap ad' (Sy cy ad' n' k' v2 o') H' locs' → lv_has ls' 9 [(4, .int (nI i)), (3, .ref (ad' 12)), (2, .ref (ad' 4)), (1, .ref (ad' 0)), (0, .ref b)] → W p l e room_1 s m #[Value.ref b] below meth c H' locs' (cells + mc) (slots + ms) Q (F0 m 1316 ls' [])) : W p l e room_1 s m #[Value.ref b] below meth c H locs cells slots Q (F0 m 172 ls []) := by
  refine lv_aload_n hx hb dL_law_172 rfl (lv_at hl 3 rfl) ?_
  refine lv_aload_n hx hb dL_law_173 rfl (lv_at hl 4 rfl) ?_
  refine lv_iload hx hb dL_law_174 (lv_at hl 0 rfl) ?_
  refine lv_iconst (v := nI 1) hx hb dL_law_176 (by decide) ?_
  refine mv_iadd (z := nI (i + 1)) hx hb (nI_add _ _) dL_law_177 ?_
  refine mx_sld hx hb hX hbl hE (j := i + 1) rfl (by omega) hL dL_law_178 ?_
  refine lv_aload_n hx hb dL_law_179 rfl (lv_at hl 4 rfl) ?_
  refine lv_iload hx hb dL_law_180 (lv_at hl 0 rfl) ?_
  refine lv_iconst (v := nI 2) hx hb dL_law_182 (by decide) ?_
  refine mv_iadd (z := nI (i + 2)) hx hb (nI_add _ _) dL_law_183 ?_
  refine mx_sld hx hb hX hbl hE (j := i + 2) rfl (by omega) hL dL_law_184 ?_
  refine lv_aload_n hx hb dL_law_185 rfl (lv_at hl 4 rfl) ?_
  refine lv_iload hx hb dL_law_186 (lv_at hl 0 rfl) ?_
  refine lv_iconst (v := nI 3) hx hb dL_law_188 (by decide) ?_
  refine mv_iadd (z := nI (i + 3)) hx hb (nI_add _ _) dL_law_189 ?_
  refine mx_sld hx hb hX hbl hE (j := i + 3) rfl (by omega) hL dL_law_190 ?_
  refine lv_aload_n hx hb dL_law_191 rfl (lv_at hl 1 rfl) ?_
  refine va_calli (vx_runSW (As := [.ref (ad 0), .int (xs (i + 1)), .int (xs (i + 2)), .int (xs (i + 3)), .ref (ad 12)]) (rest := []) ⟨hx, hb, hml, hown, hts⟩ hLc (vx_cwSW 5 hts gL_law_L_put rfl rfl rfl (by decide +kernel) ⟨Nat.le_of_ble_eq_true rfl, Nat.le_of_ble_eq_true rfl⟩) (mP_S hN hE) rfl rfl hl.1 rfl (lv_room (Nat.le_of_ble_eq_true rfl)) dL_law_192 ⟨by show _ ≤ 601024; omega, by show _ ≤ 7293034; omega⟩) hE.2.2.2 (fun q _ h => mE_A hE q h) (mE_A hE) (fun r uq tq H locs ht hvm hw hB hz1 hk1 hS => ?_)
  obtain ⟨t, n', k', ad', v', o', ht2, hn', hk', rfl, rfl, ea0, ea4, ea12, hM⟩ := hw
  have hE : mE G (lA s) s.heap ad' (Sy cy ad' n' k' v' o') H locs := mE_call hE hB ht hS
  rw [← ea12, ← ea4, ← ea0] at hl
  refine lv_istore (lv' := [(5, .int (nI t)), (4, .int (nI i)), (3, .ref (ad' 12)), (2, .ref (ad' 4)), (1, .ref (ad' 0)), (0, .ref b)]) hx hb dL_law_195 hl (by decide) rfl (fun ls hl => ?_)
  refine lv_aload_n hx hb dL_law_197 rfl (lv_at hl 3 rfl) ?_
  refine lv_aload_n hx hb dL_law_198 rfl (lv_at hl 5 rfl) ?_
  refine lv_iload hx hb dL_law_199 (lv_at hl 1 rfl) ?_
  refine lv_iconst (v := nI 1) hx hb dL_law_201 (by decide) ?_
  refine mv_iadd (z := nI (i + 1)) hx hb (nI_add _ _) dL_law_202 ?_
  refine mx_sld hx hb hX hbl hE (j := i + 1) rfl (by omega) hL dL_law_203 ?_
  refine lv_aload_n hx hb dL_law_204 rfl (lv_at hl 5 rfl) ?_
  refine lv_iload hx hb dL_law_205 (lv_at hl 1 rfl) ?_
  refine lv_iconst (v := nI 2) hx hb dL_law_207 (by decide) ?_
  refine mv_iadd (z := nI (i + 2)) hx hb (nI_add _ _) dL_law_208 ?_
  refine mx_sld hx hb hX hbl hE (j := i + 2) rfl (by omega) hL dL_law_209 ?_
  refine lv_aload_n hx hb dL_law_210 rfl (lv_at hl 5 rfl) ?_
  refine lv_iload hx hb dL_law_211 (lv_at hl 1 rfl) ?_
  refine lv_iconst (v := nI 3) hx hb dL_law_213 (by decide) ?_
  refine mv_iadd (z := nI (i + 3)) hx hb (nI_add _ _) dL_law_214 ?_
  refine mx_sld hx hb hX hbl hE (j := i + 3) rfl (by omega) hL dL_law_215 ?_
  refine va_calli (va_runV (As := [.int (xs (i + 1)), .int (xs (i + 2)), .int (xs (i + 3))]) (rest := []) ⟨hx, hb, hml, hown, hts⟩ (hM H.size) (cwV 3 hts gL_law_X3_put rfl rfl rfl (by decide +kernel) ⟨Nat.le_of_ble_eq_true rfl, Nat.le_of_ble_eq_true rfl⟩) (mP_V (r := (RX3, TX3, 11)) hN hE S_4 rfl) rfl rfl hl.1 rfl (lv_room (Nat.le_of_ble_eq_true rfl)) dL_law_216 ⟨by show _ ≤ 601024; omega, by show _ ≤ 7293034; omega⟩) hE.2.2.2 (fun q _ h => mE_A hE q h) (mE_A hE) (fun r2 uq tq H locs ht hvm hw hB hz1 hk1 hS => ?_)
  obtain ⟨v2, rfl, e0, eo, cs, hI⟩ := hw
  have hE : mE G (lA s) s.heap ad' (Sy cy ad' n' k' v2 o') H locs := mE_call hE hB ht hS
  refine lv_istore (lv' := [(6, .int r2), (5, .int (nI t)), (4, .int (nI i)), (3, .ref (ad' 12)), (2, .ref (ad' 4)), (1, .ref (ad' 0)), (0, .ref b)]) hx hb dL_law_219 hl (by decide) rfl (fun ls hl => ?_)
  refine lv_aload_n hx hb dL_law_221 rfl (lv_at hl 4 rfl) ?_
  refine va_calli (va_runV (As := []) (rest := []) ⟨hx, hb, hml, hown, hts⟩ (c_X3_thrown l G cy ad' n' k' n' k' v2 o' hn' hk' _ hI.2.2.1 hI.2.2.2.1) (cwV 0 hts gL_law_X3_thrown rfl rfl rfl (by decide +kernel) ⟨Nat.le_of_ble_eq_true rfl, Nat.le_of_ble_eq_true rfl⟩) (mP_V (r := (RX3, TX3, 11)) hN hE S_4 rfl) rfl rfl hl.1 rfl (lv_room (Nat.le_of_ble_eq_true rfl)) dL_law_222 ⟨by show _ ≤ 601024; omega, by show _ ≤ 7293034; omega⟩) hE.2.2.2 (fun q _ h => mE_A hE q h) (mE_A hE) (fun r3 uq tq H locs ht hvm hw hB hz1 hk1 hS => ?_)
  obtain ⟨rfl, rfl⟩ := hw
  have hE : mE G (lA s) s.heap ad' (Sy cy ad' n' k' v2 o') H locs := mE_call hE hB ht hS
  rw [e0]
  refine lv_iload hx hb dL_law_225 (lv_at hl 1 rfl) ?_
  refine mv_eq (tgt := 232) hx hb (by omega) (by omega) dL_law_227 (by decide) (fun c1 => ?_) (fun c1 => ?_)
  · skip
    refine lv_iload hx hb dL_law_232 (lv_at hl 1 rfl) ?_
    refine lv_if_ne (tgt := 249) hx hb dL_law_234 (by decide) (fun c2 => ?_) (fun c2 => ?_)
    · skip
      have c2 : ¬ t = 0 := fun h9 => c2 ((mz_eq (by omega)).mpr h9)
      refine lv_goto (tgt := 1316) hx hb dL_law_249 (by decide) ?_
      exact kk ad' n' k' v2 o' _ _ _ ⟨cs, hI⟩ hE (lv_sub hl [2, 3, 4, 5, 6] rfl)
    · skip
      have c2 := (mz_eq (by omega)).mp c2
      refine lv_aload_n hx hb dL_law_237 rfl (lv_at hl 3 rfl) ?_
      refine lv_iconst (v := nI 0) hx hb dL_law_238 (by decide) ?_
      refine mx_lald hx hb hN hE S_12 (j := 0) rfl (by decide) (by decide) dL_law_239 ?_
      refine lv_iload hx hb dL_law_240 (lv_at hl 0 rfl) ?_
      refine lv_i2l hx hb dL_law_242 rfl ?_
      rw [eo c2]
      refine W.lcmp hx hb dL_law_243 ?_
      rw [lg_same]
      refine lv_if_eq (tgt := 249) hx hb dL_law_244 (by decide) (fun c3 => ?_) (fun c3 => ?_)
      · skip
        refine lv_goto (tgt := 1316) hx hb dL_law_249 (by decide) ?_
        exact kk ad' n' k' v2 o' _ _ _ ⟨cs, hI⟩ hE (lv_sub hl [2, 3, 4, 5, 6] rfl)
      · skip
        exact absurd rfl c3
  · skip
    exact absurd rfl c1

set_option maxHeartbeats 4000000 in
set_option maxRecDepth 100000 in
/-- a step of the law: swap -/
theorem st_swap {p : Program} {l : Launch} {e : Env} {s : State} {m : MethodId} {below : List Frame} {meth : Method} {c : Code} {Q : State → Prop} {b L : Nat} {xs : Nat → Int32} (hx : p.tables.exec = Jvm.exec) (hb : c.code = cL_law) (hml : c.maxLocals = 9) (hown : s.vm.findClass RL = some m.cls) (hts : ∀ w ∈ wsL_law, w.before #[Value.ref b] s = true) (hX : va_X b L xs s s.heap) (hbl : b < s.heap.size) (hL : L ≤ 3584) {G : va_G} {cy : Nat → ClassId} (hN : mN G cy (lA s) s) {ad : Nat → Nat} {n k : Nat} {v : Nat → Nat → Int32} {o : Nat → Int64} {i : Nat} (hi : i + 7 ≤ L) {H : Heap} {locs : List Loc} {cells slots : Nat} (hcells : cells + 4 ≤ 601024) (hslots : slots + 60 ≤ 7293034) {ls : Array Slot} (hE : mE G (lA s) s.heap ad (Sy cy ad n k v o) H locs) (hl : lv_has ls 9 [(4, .int (nI i)), (3, .ref (ad 12)), (2, .ref (ad 4)), (1, .ref (ad 0)), (0, .ref b)]) {mc ms : Nat} (hmc : mc ≤ 4) (hms : ms ≤ 60) (hLc : mMi l yL_swap wsL_swap ({ frames := 11, cells := mc, slots := ms, locals := 260 }) G cy ad (Sy cy ad n k v o) H.size [.ref (ad 0), .int (xs (i + 1)), .int (xs (i + 2)), .int (xs (i + 3)), .ref (ad 12)] mc ms (fun (r : Int32) u => ∃ (t n' k' : Nat) (ad' : Nat → Nat) (v' : Nat → Nat → Int32) (o' : Nat → Int64), t ≤ 2 ∧ n' ≤ 6 ∧ k' ≤ 20 ∧ r = nI t ∧ u = (ad', Sy cy ad' n' k' v' o') ∧ ad' 0 = ad 0 ∧ ad' 4 = ad 4 ∧ ad' 12 = ad 12 ∧ ∀ sz' : Nat, mMi l yX3_swap wsX3_swap ({ frames := 9, cells := 0, slots := 0, locals := 180 }) G cy ad' (Sy cy ad' n' k' v' o') sz' [.ref (ad' 4), .int (xs (i + 1)), .int (xs (i + 2)), .int (xs (i + 3))] 0 0 (fun (r2 : Int32) u2 => ∃ v2 : Nat → Nat → Int32, u2 = (ad', Sy cy ad' n' k' v2 o') ∧ v2 4 0 = nI t ∧ (t = 0 → o' 0 = r2.toInt64) ∧ ∃ cs, mInv n' k' v2 cs))) (kk : ∀ (ad' : Nat → Nat) (n' k' : Nat) (v2 : Nat → Nat → Int32) (o' : Nat → Int64) (H' : Heap) (locs' : List Loc) (ls' : Array Slot), (∃ cs, mInv n' k' v2 cs) → mE G (lA s) s.heap ad' (Sy cy ad' n' k' v2 o') H' locs' → lv_has ls' 9 [(4, .int (nI i)), (3, .ref (ad' 12)), (2, .ref (ad' 4)), (1, .ref (ad' 0)), (0, .ref b)] → W p l e room_1 s m #[Value.ref b] below meth c H' locs' (cells + mc) (slots + ms) Q (F0 m 1316 ls' [])) : W p l e room_1 s m #[Value.ref b] below meth c H locs cells slots Q (F0 m 252 ls []) := by
  refine lv_aload_n hx hb dL_law_252 rfl (lv_at hl 3 rfl) ?_
  refine lv_aload_n hx hb dL_law_253 rfl (lv_at hl 4 rfl) ?_
  refine lv_iload hx hb dL_law_254 (lv_at hl 0 rfl) ?_
  refine lv_iconst (v := nI 1) hx hb dL_law_256 (by decide) ?_
  refine mv_iadd (z := nI (i + 1)) hx hb (nI_add _ _) dL_law_257 ?_
  refine mx_sld hx hb hX hbl hE (j := i + 1) rfl (by omega) hL dL_law_258 ?_
  refine lv_aload_n hx hb dL_law_259 rfl (lv_at hl 4 rfl) ?_
  refine lv_iload hx hb dL_law_260 (lv_at hl 0 rfl) ?_
  refine lv_iconst (v := nI 2) hx hb dL_law_262 (by decide) ?_
  refine mv_iadd (z := nI (i + 2)) hx hb (nI_add _ _) dL_law_263 ?_
  refine mx_sld hx hb hX hbl hE (j := i + 2) rfl (by omega) hL dL_law_264 ?_
  refine lv_aload_n hx hb dL_law_265 rfl (lv_at hl 4 rfl) ?_
  refine lv_iload hx hb dL_law_266 (lv_at hl 0 rfl) ?_
  refine lv_iconst (v := nI 3) hx hb dL_law_268 (by decide) ?_
  refine mv_iadd (z := nI (i + 3)) hx hb (nI_add _ _) dL_law_269 ?_
  refine mx_sld hx hb hX hbl hE (j := i + 3) rfl (by omega) hL dL_law_270 ?_
  refine lv_aload_n hx hb dL_law_271 rfl (lv_at hl 1 rfl) ?_
  refine va_calli (vx_runSW (As := [.ref (ad 0), .int (xs (i + 1)), .int (xs (i + 2)), .int (xs (i + 3)), .ref (ad 12)]) (rest := []) ⟨hx, hb, hml, hown, hts⟩ hLc (vx_cwSW 5 hts gL_law_L_swap rfl rfl rfl (by decide +kernel) ⟨Nat.le_of_ble_eq_true rfl, Nat.le_of_ble_eq_true rfl⟩) (mP_S hN hE) rfl rfl hl.1 rfl (lv_room (Nat.le_of_ble_eq_true rfl)) dL_law_272 ⟨by show _ ≤ 601024; omega, by show _ ≤ 7293034; omega⟩) hE.2.2.2 (fun q _ h => mE_A hE q h) (mE_A hE) (fun r uq tq H locs ht hvm hw hB hz1 hk1 hS => ?_)
  obtain ⟨t, n', k', ad', v', o', ht2, hn', hk', rfl, rfl, ea0, ea4, ea12, hM⟩ := hw
  have hE : mE G (lA s) s.heap ad' (Sy cy ad' n' k' v' o') H locs := mE_call hE hB ht hS
  rw [← ea12, ← ea4, ← ea0] at hl
  refine lv_istore (lv' := [(5, .int (nI t)), (4, .int (nI i)), (3, .ref (ad' 12)), (2, .ref (ad' 4)), (1, .ref (ad' 0)), (0, .ref b)]) hx hb dL_law_275 hl (by decide) rfl (fun ls hl => ?_)
  refine lv_aload_n hx hb dL_law_277 rfl (lv_at hl 3 rfl) ?_
  refine lv_aload_n hx hb dL_law_278 rfl (lv_at hl 5 rfl) ?_
  refine lv_iload hx hb dL_law_279 (lv_at hl 1 rfl) ?_
  refine lv_iconst (v := nI 1) hx hb dL_law_281 (by decide) ?_
  refine mv_iadd (z := nI (i + 1)) hx hb (nI_add _ _) dL_law_282 ?_
  refine mx_sld hx hb hX hbl hE (j := i + 1) rfl (by omega) hL dL_law_283 ?_
  refine lv_aload_n hx hb dL_law_284 rfl (lv_at hl 5 rfl) ?_
  refine lv_iload hx hb dL_law_285 (lv_at hl 1 rfl) ?_
  refine lv_iconst (v := nI 2) hx hb dL_law_287 (by decide) ?_
  refine mv_iadd (z := nI (i + 2)) hx hb (nI_add _ _) dL_law_288 ?_
  refine mx_sld hx hb hX hbl hE (j := i + 2) rfl (by omega) hL dL_law_289 ?_
  refine lv_aload_n hx hb dL_law_290 rfl (lv_at hl 5 rfl) ?_
  refine lv_iload hx hb dL_law_291 (lv_at hl 1 rfl) ?_
  refine lv_iconst (v := nI 3) hx hb dL_law_293 (by decide) ?_
  refine mv_iadd (z := nI (i + 3)) hx hb (nI_add _ _) dL_law_294 ?_
  refine mx_sld hx hb hX hbl hE (j := i + 3) rfl (by omega) hL dL_law_295 ?_
  refine va_calli (va_runV (As := [.int (xs (i + 1)), .int (xs (i + 2)), .int (xs (i + 3))]) (rest := []) ⟨hx, hb, hml, hown, hts⟩ (hM H.size) (cwV 3 hts gL_law_X3_swap rfl rfl rfl (by decide +kernel) ⟨Nat.le_of_ble_eq_true rfl, Nat.le_of_ble_eq_true rfl⟩) (mP_V (r := (RX3, TX3, 11)) hN hE S_4 rfl) rfl rfl hl.1 rfl (lv_room (Nat.le_of_ble_eq_true rfl)) dL_law_296 ⟨by show _ ≤ 601024; omega, by show _ ≤ 7293034; omega⟩) hE.2.2.2 (fun q _ h => mE_A hE q h) (mE_A hE) (fun r2 uq tq H locs ht hvm hw hB hz1 hk1 hS => ?_)
  obtain ⟨v2, rfl, e0, eo, cs, hI⟩ := hw
  have hE : mE G (lA s) s.heap ad' (Sy cy ad' n' k' v2 o') H locs := mE_call hE hB ht hS
  refine lv_istore (lv' := [(6, .int r2), (5, .int (nI t)), (4, .int (nI i)), (3, .ref (ad' 12)), (2, .ref (ad' 4)), (1, .ref (ad' 0)), (0, .ref b)]) hx hb dL_law_299 hl (by decide) rfl (fun ls hl => ?_)
  refine lv_aload_n hx hb dL_law_301 rfl (lv_at hl 4 rfl) ?_
  refine va_calli (va_runV (As := []) (rest := []) ⟨hx, hb, hml, hown, hts⟩ (c_X3_thrown l G cy ad' n' k' n' k' v2 o' hn' hk' _ hI.2.2.1 hI.2.2.2.1) (cwV 0 hts gL_law_X3_thrown rfl rfl rfl (by decide +kernel) ⟨Nat.le_of_ble_eq_true rfl, Nat.le_of_ble_eq_true rfl⟩) (mP_V (r := (RX3, TX3, 11)) hN hE S_4 rfl) rfl rfl hl.1 rfl (lv_room (Nat.le_of_ble_eq_true rfl)) dL_law_302 ⟨by show _ ≤ 601024; omega, by show _ ≤ 7293034; omega⟩) hE.2.2.2 (fun q _ h => mE_A hE q h) (mE_A hE) (fun r3 uq tq H locs ht hvm hw hB hz1 hk1 hS => ?_)
  obtain ⟨rfl, rfl⟩ := hw
  have hE : mE G (lA s) s.heap ad' (Sy cy ad' n' k' v2 o') H locs := mE_call hE hB ht hS
  rw [e0]
  refine lv_iload hx hb dL_law_305 (lv_at hl 1 rfl) ?_
  refine mv_eq (tgt := 312) hx hb (by omega) (by omega) dL_law_307 (by decide) (fun c1 => ?_) (fun c1 => ?_)
  · skip
    refine lv_iload hx hb dL_law_312 (lv_at hl 1 rfl) ?_
    refine lv_if_ne (tgt := 329) hx hb dL_law_314 (by decide) (fun c2 => ?_) (fun c2 => ?_)
    · skip
      have c2 : ¬ t = 0 := fun h9 => c2 ((mz_eq (by omega)).mpr h9)
      refine lv_goto (tgt := 1316) hx hb dL_law_329 (by decide) ?_
      exact kk ad' n' k' v2 o' _ _ _ ⟨cs, hI⟩ hE (lv_sub hl [2, 3, 4, 5, 6] rfl)
    · skip
      have c2 := (mz_eq (by omega)).mp c2
      refine lv_aload_n hx hb dL_law_317 rfl (lv_at hl 3 rfl) ?_
      refine lv_iconst (v := nI 0) hx hb dL_law_318 (by decide) ?_
      refine mx_lald hx hb hN hE S_12 (j := 0) rfl (by decide) (by decide) dL_law_319 ?_
      refine lv_iload hx hb dL_law_320 (lv_at hl 0 rfl) ?_
      refine lv_i2l hx hb dL_law_322 rfl ?_
      rw [eo c2]
      refine W.lcmp hx hb dL_law_323 ?_
      rw [lg_same]
      refine lv_if_eq (tgt := 329) hx hb dL_law_324 (by decide) (fun c3 => ?_) (fun c3 => ?_)
      · skip
        refine lv_goto (tgt := 1316) hx hb dL_law_329 (by decide) ?_
        exact kk ad' n' k' v2 o' _ _ _ ⟨cs, hI⟩ hE (lv_sub hl [2, 3, 4, 5, 6] rfl)
      · skip
        exact absurd rfl c3
  · skip
    exact absurd rfl c1

set_option maxHeartbeats 4000000 in
set_option maxRecDepth 100000 in
/-- a step of the law: sum -/
theorem st_sum {p : Program} {l : Launch} {e : Env} {s : State} {m : MethodId} {below : List Frame} {meth : Method} {c : Code} {Q : State → Prop} {b L : Nat} {xs : Nat → Int32} (hx : p.tables.exec = Jvm.exec) (hb : c.code = cL_law) (hml : c.maxLocals = 9) (hown : s.vm.findClass RL = some m.cls) (hts : ∀ w ∈ wsL_law, w.before #[Value.ref b] s = true) (hX : va_X b L xs s s.heap) (hbl : b < s.heap.size) (hL : L ≤ 3584) {G : va_G} {cy : Nat → ClassId} (hN : mN G cy (lA s) s) {ad : Nat → Nat} {n k : Nat} {v : Nat → Nat → Int32} {o : Nat → Int64} {i : Nat} (hi : i + 7 ≤ L) {H : Heap} {locs : List Loc} {cells slots : Nat} (hcells : cells + 4 ≤ 601024) (hslots : slots + 60 ≤ 7293034) {ls : Array Slot} (hE : mE G (lA s) s.heap ad (Sy cy ad n k v o) H locs) (hl : lv_has ls 9 [(4, .int (nI i)), (3, .ref (ad 12)), (2, .ref (ad 4)), (1, .ref (ad 0)), (0, .ref b)]) {mc ms : Nat} (hmc : mc ≤ 4) (hms : ms ≤ 60) (hLc : mMi l yL_sum wsL_sum ({ frames := 9, cells := mc, slots := ms, locals := 180 }) G cy ad (Sy cy ad n k v o) H.size [.ref (ad 0), .int (xs (i + 1)), .int (xs (i + 2)), .ref (ad 12)] mc ms (fun (r : Int32) u => ∃ (t n' k' : Nat) (ad' : Nat → Nat) (v' : Nat → Nat → Int32) (o' : Nat → Int64), t ≤ 2 ∧ n' ≤ 6 ∧ k' ≤ 20 ∧ r = nI t ∧ u = (ad', Sy cy ad' n' k' v' o') ∧ ad' 0 = ad 0 ∧ ad' 4 = ad 4 ∧ ad' 12 = ad 12 ∧ ∀ sz' : Nat, mMi l yX3_sum wsX3_sum ({ frames := 9, cells := 0, slots := 0, locals := 180 }) G cy ad' (Sy cy ad' n' k' v' o') sz' [.ref (ad' 4), .int (xs (i + 1)), .int (xs (i + 2))] 0 0 (fun (r2 : Int32) u2 => ∃ v2 : Nat → Nat → Int32, u2 = (ad', Sy cy ad' n' k' v2 o') ∧ v2 4 0 = nI t ∧ (t = 0 → o' 0 = r2.toInt64) ∧ ∃ cs, mInv n' k' v2 cs))) (kk : ∀ (ad' : Nat → Nat) (n' k' : Nat) (v2 : Nat → Nat → Int32) (o' : Nat → Int64) (H' : Heap) (locs' : List Loc) (ls' : Array Slot), (∃ cs, mInv n' k' v2 cs) → mE G (lA s) s.heap ad' (Sy cy ad' n' k' v2 o') H' locs' → lv_has ls' 9 [(4, .int (nI i)), (3, .ref (ad' 12)), (2, .ref (ad' 4)), (1, .ref (ad' 0)), (0, .ref b)] → W p l e room_1 s m #[Value.ref b] below meth c H' locs' (cells + mc) (slots + ms) Q (F0 m 1316 ls' [])) : W p l e room_1 s m #[Value.ref b] below meth c H locs cells slots Q (F0 m 332 ls []) := by
  refine lv_aload_n hx hb dL_law_332 rfl (lv_at hl 3 rfl) ?_
  refine lv_aload_n hx hb dL_law_333 rfl (lv_at hl 4 rfl) ?_
  refine lv_iload hx hb dL_law_334 (lv_at hl 0 rfl) ?_
  refine lv_iconst (v := nI 1) hx hb dL_law_336 (by decide) ?_
  refine mv_iadd (z := nI (i + 1)) hx hb (nI_add _ _) dL_law_337 ?_
  refine mx_sld hx hb hX hbl hE (j := i + 1) rfl (by omega) hL dL_law_338 ?_
  refine lv_aload_n hx hb dL_law_339 rfl (lv_at hl 4 rfl) ?_
  refine lv_iload hx hb dL_law_340 (lv_at hl 0 rfl) ?_
  refine lv_iconst (v := nI 2) hx hb dL_law_342 (by decide) ?_
  refine mv_iadd (z := nI (i + 2)) hx hb (nI_add _ _) dL_law_343 ?_
  refine mx_sld hx hb hX hbl hE (j := i + 2) rfl (by omega) hL dL_law_344 ?_
  refine lv_aload_n hx hb dL_law_345 rfl (lv_at hl 1 rfl) ?_
  refine va_calli (vx_runSW (As := [.ref (ad 0), .int (xs (i + 1)), .int (xs (i + 2)), .ref (ad 12)]) (rest := []) ⟨hx, hb, hml, hown, hts⟩ hLc (vx_cwSW 4 hts gL_law_L_sum rfl rfl rfl (by decide +kernel) ⟨Nat.le_of_ble_eq_true rfl, Nat.le_of_ble_eq_true rfl⟩) (mP_S hN hE) rfl rfl hl.1 rfl (lv_room (Nat.le_of_ble_eq_true rfl)) dL_law_346 ⟨by show _ ≤ 601024; omega, by show _ ≤ 7293034; omega⟩) hE.2.2.2 (fun q _ h => mE_A hE q h) (mE_A hE) (fun r uq tq H locs ht hvm hw hB hz1 hk1 hS => ?_)
  obtain ⟨t, n', k', ad', v', o', ht2, hn', hk', rfl, rfl, ea0, ea4, ea12, hM⟩ := hw
  have hE : mE G (lA s) s.heap ad' (Sy cy ad' n' k' v' o') H locs := mE_call hE hB ht hS
  rw [← ea12, ← ea4, ← ea0] at hl
  refine lv_istore (lv' := [(5, .int (nI t)), (4, .int (nI i)), (3, .ref (ad' 12)), (2, .ref (ad' 4)), (1, .ref (ad' 0)), (0, .ref b)]) hx hb dL_law_349 hl (by decide) rfl (fun ls hl => ?_)
  refine lv_aload_n hx hb dL_law_351 rfl (lv_at hl 3 rfl) ?_
  refine lv_aload_n hx hb dL_law_352 rfl (lv_at hl 5 rfl) ?_
  refine lv_iload hx hb dL_law_353 (lv_at hl 1 rfl) ?_
  refine lv_iconst (v := nI 1) hx hb dL_law_355 (by decide) ?_
  refine mv_iadd (z := nI (i + 1)) hx hb (nI_add _ _) dL_law_356 ?_
  refine mx_sld hx hb hX hbl hE (j := i + 1) rfl (by omega) hL dL_law_357 ?_
  refine lv_aload_n hx hb dL_law_358 rfl (lv_at hl 5 rfl) ?_
  refine lv_iload hx hb dL_law_359 (lv_at hl 1 rfl) ?_
  refine lv_iconst (v := nI 2) hx hb dL_law_361 (by decide) ?_
  refine mv_iadd (z := nI (i + 2)) hx hb (nI_add _ _) dL_law_362 ?_
  refine mx_sld hx hb hX hbl hE (j := i + 2) rfl (by omega) hL dL_law_363 ?_
  refine va_calli (va_runV (As := [.int (xs (i + 1)), .int (xs (i + 2))]) (rest := []) ⟨hx, hb, hml, hown, hts⟩ (hM H.size) (cwV 2 hts gL_law_X3_sum rfl rfl rfl (by decide +kernel) ⟨Nat.le_of_ble_eq_true rfl, Nat.le_of_ble_eq_true rfl⟩) (mP_V (r := (RX3, TX3, 11)) hN hE S_4 rfl) rfl rfl hl.1 rfl (lv_room (Nat.le_of_ble_eq_true rfl)) dL_law_364 ⟨by show _ ≤ 601024; omega, by show _ ≤ 7293034; omega⟩) hE.2.2.2 (fun q _ h => mE_A hE q h) (mE_A hE) (fun r2 uq tq H locs ht hvm hw hB hz1 hk1 hS => ?_)
  obtain ⟨v2, rfl, e0, eo, cs, hI⟩ := hw
  have hE : mE G (lA s) s.heap ad' (Sy cy ad' n' k' v2 o') H locs := mE_call hE hB ht hS
  refine lv_istore (lv' := [(6, .int r2), (5, .int (nI t)), (4, .int (nI i)), (3, .ref (ad' 12)), (2, .ref (ad' 4)), (1, .ref (ad' 0)), (0, .ref b)]) hx hb dL_law_367 hl (by decide) rfl (fun ls hl => ?_)
  refine lv_aload_n hx hb dL_law_369 rfl (lv_at hl 4 rfl) ?_
  refine va_calli (va_runV (As := []) (rest := []) ⟨hx, hb, hml, hown, hts⟩ (c_X3_thrown l G cy ad' n' k' n' k' v2 o' hn' hk' _ hI.2.2.1 hI.2.2.2.1) (cwV 0 hts gL_law_X3_thrown rfl rfl rfl (by decide +kernel) ⟨Nat.le_of_ble_eq_true rfl, Nat.le_of_ble_eq_true rfl⟩) (mP_V (r := (RX3, TX3, 11)) hN hE S_4 rfl) rfl rfl hl.1 rfl (lv_room (Nat.le_of_ble_eq_true rfl)) dL_law_370 ⟨by show _ ≤ 601024; omega, by show _ ≤ 7293034; omega⟩) hE.2.2.2 (fun q _ h => mE_A hE q h) (mE_A hE) (fun r3 uq tq H locs ht hvm hw hB hz1 hk1 hS => ?_)
  obtain ⟨rfl, rfl⟩ := hw
  have hE : mE G (lA s) s.heap ad' (Sy cy ad' n' k' v2 o') H locs := mE_call hE hB ht hS
  rw [e0]
  refine lv_iload hx hb dL_law_373 (lv_at hl 1 rfl) ?_
  refine mv_eq (tgt := 380) hx hb (by omega) (by omega) dL_law_375 (by decide) (fun c1 => ?_) (fun c1 => ?_)
  · skip
    refine lv_iload hx hb dL_law_380 (lv_at hl 1 rfl) ?_
    refine lv_if_ne (tgt := 397) hx hb dL_law_382 (by decide) (fun c2 => ?_) (fun c2 => ?_)
    · skip
      have c2 : ¬ t = 0 := fun h9 => c2 ((mz_eq (by omega)).mpr h9)
      refine lv_goto (tgt := 1316) hx hb dL_law_397 (by decide) ?_
      exact kk ad' n' k' v2 o' _ _ _ ⟨cs, hI⟩ hE (lv_sub hl [2, 3, 4, 5, 6] rfl)
    · skip
      have c2 := (mz_eq (by omega)).mp c2
      refine lv_aload_n hx hb dL_law_385 rfl (lv_at hl 3 rfl) ?_
      refine lv_iconst (v := nI 0) hx hb dL_law_386 (by decide) ?_
      refine mx_lald hx hb hN hE S_12 (j := 0) rfl (by decide) (by decide) dL_law_387 ?_
      refine lv_iload hx hb dL_law_388 (lv_at hl 0 rfl) ?_
      refine lv_i2l hx hb dL_law_390 rfl ?_
      rw [eo c2]
      refine W.lcmp hx hb dL_law_391 ?_
      rw [lg_same]
      refine lv_if_eq (tgt := 397) hx hb dL_law_392 (by decide) (fun c3 => ?_) (fun c3 => ?_)
      · skip
        refine lv_goto (tgt := 1316) hx hb dL_law_397 (by decide) ?_
        exact kk ad' n' k' v2 o' _ _ _ ⟨cs, hI⟩ hE (lv_sub hl [2, 3, 4, 5, 6] rfl)
      · skip
        exact absurd rfl c3
  · skip
    exact absurd rfl c1

set_option maxHeartbeats 4000000 in
set_option maxRecDepth 100000 in
/-- a step of the law: told -/
theorem st_told {p : Program} {l : Launch} {e : Env} {s : State} {m : MethodId} {below : List Frame} {meth : Method} {c : Code} {Q : State → Prop} {b L : Nat} {xs : Nat → Int32} (hx : p.tables.exec = Jvm.exec) (hb : c.code = cL_law) (hml : c.maxLocals = 9) (hown : s.vm.findClass RL = some m.cls) (hts : ∀ w ∈ wsL_law, w.before #[Value.ref b] s = true) (hX : va_X b L xs s s.heap) (hbl : b < s.heap.size) (hL : L ≤ 3584) {G : va_G} {cy : Nat → ClassId} (hN : mN G cy (lA s) s) {ad : Nat → Nat} {n k : Nat} {v : Nat → Nat → Int32} {o : Nat → Int64} {i : Nat} (hi : i + 7 ≤ L) {H : Heap} {locs : List Loc} {cells slots : Nat} (hcells : cells + 4 ≤ 601024) (hslots : slots + 60 ≤ 7293034) {ls : Array Slot} (hE : mE G (lA s) s.heap ad (Sy cy ad n k v o) H locs) (hl : lv_has ls 9 [(4, .int (nI i)), (3, .ref (ad 12)), (2, .ref (ad 4)), (1, .ref (ad 0)), (0, .ref b)]) {mc ms : Nat} (hmc : mc ≤ 4) (hms : ms ≤ 60) (hLc : mMi l yL_told wsL_told ({ frames := 9, cells := mc, slots := ms, locals := 180 }) G cy ad (Sy cy ad n k v o) H.size [.ref (ad 0), .int (xs (i + 1)), .int (xs (i + 2)), .ref (ad 12)] mc ms (fun (r : Int32) u => ∃ (t n' k' : Nat) (ad' : Nat → Nat) (v' : Nat → Nat → Int32) (o' : Nat → Int64), t ≤ 2 ∧ n' ≤ 6 ∧ k' ≤ 20 ∧ r = nI t ∧ u = (ad', Sy cy ad' n' k' v' o') ∧ ad' 0 = ad 0 ∧ ad' 4 = ad 4 ∧ ad' 12 = ad 12 ∧ ∀ sz' : Nat, mMi l yX3_told wsX3_told ({ frames := 11, cells := 0, slots := 0, locals := 260 }) G cy ad' (Sy cy ad' n' k' v' o') sz' [.ref (ad' 4), .int (xs (i + 1)), .int (xs (i + 2))] 0 0 (fun (r2 : Int32) u2 => ∃ v2 : Nat → Nat → Int32, u2 = (ad', Sy cy ad' n' k' v2 o') ∧ v2 4 0 = nI t ∧ (t = 0 → o' 0 = r2.toInt64) ∧ ∃ cs, mInv n' k' v2 cs))) (kk : ∀ (ad' : Nat → Nat) (n' k' : Nat) (v2 : Nat → Nat → Int32) (o' : Nat → Int64) (H' : Heap) (locs' : List Loc) (ls' : Array Slot), (∃ cs, mInv n' k' v2 cs) → mE G (lA s) s.heap ad' (Sy cy ad' n' k' v2 o') H' locs' → lv_has ls' 9 [(4, .int (nI i)), (3, .ref (ad' 12)), (2, .ref (ad' 4)), (1, .ref (ad' 0)), (0, .ref b)] → W p l e room_1 s m #[Value.ref b] below meth c H' locs' (cells + mc) (slots + ms) Q (F0 m 1316 ls' [])) : W p l e room_1 s m #[Value.ref b] below meth c H locs cells slots Q (F0 m 400 ls []) := by
  refine lv_aload_n hx hb dL_law_400 rfl (lv_at hl 3 rfl) ?_
  refine lv_aload_n hx hb dL_law_401 rfl (lv_at hl 4 rfl) ?_
  refine lv_iload hx hb dL_law_402 (lv_at hl 0 rfl) ?_
  refine lv_iconst (v := nI 1) hx hb dL_law_404 (by decide) ?_
  refine mv_iadd (z := nI (i + 1)) hx hb (nI_add _ _) dL_law_405 ?_
  refine mx_sld hx hb hX hbl hE (j := i + 1) rfl (by omega) hL dL_law_406 ?_
  refine lv_aload_n hx hb dL_law_407 rfl (lv_at hl 4 rfl) ?_
  refine lv_iload hx hb dL_law_408 (lv_at hl 0 rfl) ?_
  refine lv_iconst (v := nI 2) hx hb dL_law_410 (by decide) ?_
  refine mv_iadd (z := nI (i + 2)) hx hb (nI_add _ _) dL_law_411 ?_
  refine mx_sld hx hb hX hbl hE (j := i + 2) rfl (by omega) hL dL_law_412 ?_
  refine lv_aload_n hx hb dL_law_413 rfl (lv_at hl 1 rfl) ?_
  refine va_calli (vx_runSW (As := [.ref (ad 0), .int (xs (i + 1)), .int (xs (i + 2)), .ref (ad 12)]) (rest := []) ⟨hx, hb, hml, hown, hts⟩ hLc (vx_cwSW 4 hts gL_law_L_told rfl rfl rfl (by decide +kernel) ⟨Nat.le_of_ble_eq_true rfl, Nat.le_of_ble_eq_true rfl⟩) (mP_S hN hE) rfl rfl hl.1 rfl (lv_room (Nat.le_of_ble_eq_true rfl)) dL_law_414 ⟨by show _ ≤ 601024; omega, by show _ ≤ 7293034; omega⟩) hE.2.2.2 (fun q _ h => mE_A hE q h) (mE_A hE) (fun r uq tq H locs ht hvm hw hB hz1 hk1 hS => ?_)
  obtain ⟨t, n', k', ad', v', o', ht2, hn', hk', rfl, rfl, ea0, ea4, ea12, hM⟩ := hw
  have hE : mE G (lA s) s.heap ad' (Sy cy ad' n' k' v' o') H locs := mE_call hE hB ht hS
  rw [← ea12, ← ea4, ← ea0] at hl
  refine lv_istore (lv' := [(5, .int (nI t)), (4, .int (nI i)), (3, .ref (ad' 12)), (2, .ref (ad' 4)), (1, .ref (ad' 0)), (0, .ref b)]) hx hb dL_law_417 hl (by decide) rfl (fun ls hl => ?_)
  refine lv_aload_n hx hb dL_law_419 rfl (lv_at hl 3 rfl) ?_
  refine lv_aload_n hx hb dL_law_420 rfl (lv_at hl 5 rfl) ?_
  refine lv_iload hx hb dL_law_421 (lv_at hl 1 rfl) ?_
  refine lv_iconst (v := nI 1) hx hb dL_law_423 (by decide) ?_
  refine mv_iadd (z := nI (i + 1)) hx hb (nI_add _ _) dL_law_424 ?_
  refine mx_sld hx hb hX hbl hE (j := i + 1) rfl (by omega) hL dL_law_425 ?_
  refine lv_aload_n hx hb dL_law_426 rfl (lv_at hl 5 rfl) ?_
  refine lv_iload hx hb dL_law_427 (lv_at hl 1 rfl) ?_
  refine lv_iconst (v := nI 2) hx hb dL_law_429 (by decide) ?_
  refine mv_iadd (z := nI (i + 2)) hx hb (nI_add _ _) dL_law_430 ?_
  refine mx_sld hx hb hX hbl hE (j := i + 2) rfl (by omega) hL dL_law_431 ?_
  refine va_calli (va_runV (As := [.int (xs (i + 1)), .int (xs (i + 2))]) (rest := []) ⟨hx, hb, hml, hown, hts⟩ (hM H.size) (cwV 2 hts gL_law_X3_told rfl rfl rfl (by decide +kernel) ⟨Nat.le_of_ble_eq_true rfl, Nat.le_of_ble_eq_true rfl⟩) (mP_V (r := (RX3, TX3, 11)) hN hE S_4 rfl) rfl rfl hl.1 rfl (lv_room (Nat.le_of_ble_eq_true rfl)) dL_law_432 ⟨by show _ ≤ 601024; omega, by show _ ≤ 7293034; omega⟩) hE.2.2.2 (fun q _ h => mE_A hE q h) (mE_A hE) (fun r2 uq tq H locs ht hvm hw hB hz1 hk1 hS => ?_)
  obtain ⟨v2, rfl, e0, eo, cs, hI⟩ := hw
  have hE : mE G (lA s) s.heap ad' (Sy cy ad' n' k' v2 o') H locs := mE_call hE hB ht hS
  refine lv_istore (lv' := [(6, .int r2), (5, .int (nI t)), (4, .int (nI i)), (3, .ref (ad' 12)), (2, .ref (ad' 4)), (1, .ref (ad' 0)), (0, .ref b)]) hx hb dL_law_435 hl (by decide) rfl (fun ls hl => ?_)
  refine lv_aload_n hx hb dL_law_437 rfl (lv_at hl 4 rfl) ?_
  refine va_calli (va_runV (As := []) (rest := []) ⟨hx, hb, hml, hown, hts⟩ (c_X3_thrown l G cy ad' n' k' n' k' v2 o' hn' hk' _ hI.2.2.1 hI.2.2.2.1) (cwV 0 hts gL_law_X3_thrown rfl rfl rfl (by decide +kernel) ⟨Nat.le_of_ble_eq_true rfl, Nat.le_of_ble_eq_true rfl⟩) (mP_V (r := (RX3, TX3, 11)) hN hE S_4 rfl) rfl rfl hl.1 rfl (lv_room (Nat.le_of_ble_eq_true rfl)) dL_law_438 ⟨by show _ ≤ 601024; omega, by show _ ≤ 7293034; omega⟩) hE.2.2.2 (fun q _ h => mE_A hE q h) (mE_A hE) (fun r3 uq tq H locs ht hvm hw hB hz1 hk1 hS => ?_)
  obtain ⟨rfl, rfl⟩ := hw
  have hE : mE G (lA s) s.heap ad' (Sy cy ad' n' k' v2 o') H locs := mE_call hE hB ht hS
  rw [e0]
  refine lv_iload hx hb dL_law_441 (lv_at hl 1 rfl) ?_
  refine mv_eq (tgt := 448) hx hb (by omega) (by omega) dL_law_443 (by decide) (fun c1 => ?_) (fun c1 => ?_)
  · skip
    refine lv_iload hx hb dL_law_448 (lv_at hl 1 rfl) ?_
    refine lv_if_ne (tgt := 465) hx hb dL_law_450 (by decide) (fun c2 => ?_) (fun c2 => ?_)
    · skip
      have c2 : ¬ t = 0 := fun h9 => c2 ((mz_eq (by omega)).mpr h9)
      refine lv_goto (tgt := 1316) hx hb dL_law_465 (by decide) ?_
      exact kk ad' n' k' v2 o' _ _ _ ⟨cs, hI⟩ hE (lv_sub hl [2, 3, 4, 5, 6] rfl)
    · skip
      have c2 := (mz_eq (by omega)).mp c2
      refine lv_aload_n hx hb dL_law_453 rfl (lv_at hl 3 rfl) ?_
      refine lv_iconst (v := nI 0) hx hb dL_law_454 (by decide) ?_
      refine mx_lald hx hb hN hE S_12 (j := 0) rfl (by decide) (by decide) dL_law_455 ?_
      refine lv_iload hx hb dL_law_456 (lv_at hl 0 rfl) ?_
      refine lv_i2l hx hb dL_law_458 rfl ?_
      rw [eo c2]
      refine W.lcmp hx hb dL_law_459 ?_
      rw [lg_same]
      refine lv_if_eq (tgt := 465) hx hb dL_law_460 (by decide) (fun c3 => ?_) (fun c3 => ?_)
      · skip
        refine lv_goto (tgt := 1316) hx hb dL_law_465 (by decide) ?_
        exact kk ad' n' k' v2 o' _ _ _ ⟨cs, hI⟩ hE (lv_sub hl [2, 3, 4, 5, 6] rfl)
      · skip
        exact absurd rfl c3
  · skip
    exact absurd rfl c1

set_option maxHeartbeats 4000000 in
set_option maxRecDepth 100000 in
/-- a step of the law: thing -/
theorem st_thing {p : Program} {l : Launch} {e : Env} {s : State} {m : MethodId} {below : List Frame} {meth : Method} {c : Code} {Q : State → Prop} {b L : Nat} {xs : Nat → Int32} (hx : p.tables.exec = Jvm.exec) (hb : c.code = cL_law) (hml : c.maxLocals = 9) (hown : s.vm.findClass RL = some m.cls) (hts : ∀ w ∈ wsL_law, w.before #[Value.ref b] s = true) (hX : va_X b L xs s s.heap) (hbl : b < s.heap.size) (hL : L ≤ 3584) {G : va_G} {cy : Nat → ClassId} (hN : mN G cy (lA s) s) {ad : Nat → Nat} {n k : Nat} {v : Nat → Nat → Int32} {o : Nat → Int64} {i : Nat} (hi : i + 7 ≤ L) {H : Heap} {locs : List Loc} {cells slots : Nat} (hcells : cells + 4 ≤ 601024) (hslots : slots + 60 ≤ 7293034) {ls : Array Slot} (hE : mE G (lA s) s.heap ad (Sy cy ad n k v o) H locs) (hl : lv_has ls 9 [(4, .int (nI i)), (3, .ref (ad 12)), (2, .ref (ad 4)), (1, .ref (ad 0)), (0, .ref b)]) {mc ms : Nat} (hmc : mc ≤ 4) (hms : ms ≤ 60) (hLc : mMi l yL_thing wsL_thing ({ frames := 9, cells := mc, slots := ms, locals := 180 }) G cy ad (Sy cy ad n k v o) H.size [.ref (ad 0), .int (xs (i + 1)), .int (xs (i + 2)), .ref (ad 12)] mc ms (fun (r : Int32) u => ∃ (t n' k' : Nat) (ad' : Nat → Nat) (v' : Nat → Nat → Int32) (o' : Nat → Int64), t ≤ 2 ∧ n' ≤ 6 ∧ k' ≤ 20 ∧ r = nI t ∧ u = (ad', Sy cy ad' n' k' v' o') ∧ ad' 0 = ad 0 ∧ ad' 4 = ad 4 ∧ ad' 12 = ad 12 ∧ ∀ sz' : Nat, mMi l yX3_thing wsX3_thing ({ frames := 9, cells := 0, slots := 0, locals := 180 }) G cy ad' (Sy cy ad' n' k' v' o') sz' [.ref (ad' 4), .int (xs (i + 1)), .int (xs (i + 2))] 0 0 (fun (r2 : Int32) u2 => ∃ v2 : Nat → Nat → Int32, u2 = (ad', Sy cy ad' n' k' v2 o') ∧ v2 4 0 = nI t ∧ (t = 0 → o' 0 = r2.toInt64) ∧ ∃ cs, mInv n' k' v2 cs))) (kk : ∀ (ad' : Nat → Nat) (n' k' : Nat) (v2 : Nat → Nat → Int32) (o' : Nat → Int64) (H' : Heap) (locs' : List Loc) (ls' : Array Slot), (∃ cs, mInv n' k' v2 cs) → mE G (lA s) s.heap ad' (Sy cy ad' n' k' v2 o') H' locs' → lv_has ls' 9 [(4, .int (nI i)), (3, .ref (ad' 12)), (2, .ref (ad' 4)), (1, .ref (ad' 0)), (0, .ref b)] → W p l e room_1 s m #[Value.ref b] below meth c H' locs' (cells + mc) (slots + ms) Q (F0 m 1316 ls' [])) : W p l e room_1 s m #[Value.ref b] below meth c H locs cells slots Q (F0 m 468 ls []) := by
  refine lv_aload_n hx hb dL_law_468 rfl (lv_at hl 3 rfl) ?_
  refine lv_aload_n hx hb dL_law_469 rfl (lv_at hl 4 rfl) ?_
  refine lv_iload hx hb dL_law_470 (lv_at hl 0 rfl) ?_
  refine lv_iconst (v := nI 1) hx hb dL_law_472 (by decide) ?_
  refine mv_iadd (z := nI (i + 1)) hx hb (nI_add _ _) dL_law_473 ?_
  refine mx_sld hx hb hX hbl hE (j := i + 1) rfl (by omega) hL dL_law_474 ?_
  refine lv_aload_n hx hb dL_law_475 rfl (lv_at hl 4 rfl) ?_
  refine lv_iload hx hb dL_law_476 (lv_at hl 0 rfl) ?_
  refine lv_iconst (v := nI 2) hx hb dL_law_478 (by decide) ?_
  refine mv_iadd (z := nI (i + 2)) hx hb (nI_add _ _) dL_law_479 ?_
  refine mx_sld hx hb hX hbl hE (j := i + 2) rfl (by omega) hL dL_law_480 ?_
  refine lv_aload_n hx hb dL_law_481 rfl (lv_at hl 1 rfl) ?_
  refine va_calli (vx_runSW (As := [.ref (ad 0), .int (xs (i + 1)), .int (xs (i + 2)), .ref (ad 12)]) (rest := []) ⟨hx, hb, hml, hown, hts⟩ hLc (vx_cwSW 4 hts gL_law_L_thing rfl rfl rfl (by decide +kernel) ⟨Nat.le_of_ble_eq_true rfl, Nat.le_of_ble_eq_true rfl⟩) (mP_S hN hE) rfl rfl hl.1 rfl (lv_room (Nat.le_of_ble_eq_true rfl)) dL_law_482 ⟨by show _ ≤ 601024; omega, by show _ ≤ 7293034; omega⟩) hE.2.2.2 (fun q _ h => mE_A hE q h) (mE_A hE) (fun r uq tq H locs ht hvm hw hB hz1 hk1 hS => ?_)
  obtain ⟨t, n', k', ad', v', o', ht2, hn', hk', rfl, rfl, ea0, ea4, ea12, hM⟩ := hw
  have hE : mE G (lA s) s.heap ad' (Sy cy ad' n' k' v' o') H locs := mE_call hE hB ht hS
  rw [← ea12, ← ea4, ← ea0] at hl
  refine lv_istore (lv' := [(5, .int (nI t)), (4, .int (nI i)), (3, .ref (ad' 12)), (2, .ref (ad' 4)), (1, .ref (ad' 0)), (0, .ref b)]) hx hb dL_law_485 hl (by decide) rfl (fun ls hl => ?_)
  refine lv_aload_n hx hb dL_law_487 rfl (lv_at hl 3 rfl) ?_
  refine lv_aload_n hx hb dL_law_488 rfl (lv_at hl 5 rfl) ?_
  refine lv_iload hx hb dL_law_489 (lv_at hl 1 rfl) ?_
  refine lv_iconst (v := nI 1) hx hb dL_law_491 (by decide) ?_
  refine mv_iadd (z := nI (i + 1)) hx hb (nI_add _ _) dL_law_492 ?_
  refine mx_sld hx hb hX hbl hE (j := i + 1) rfl (by omega) hL dL_law_493 ?_
  refine lv_aload_n hx hb dL_law_494 rfl (lv_at hl 5 rfl) ?_
  refine lv_iload hx hb dL_law_495 (lv_at hl 1 rfl) ?_
  refine lv_iconst (v := nI 2) hx hb dL_law_497 (by decide) ?_
  refine mv_iadd (z := nI (i + 2)) hx hb (nI_add _ _) dL_law_498 ?_
  refine mx_sld hx hb hX hbl hE (j := i + 2) rfl (by omega) hL dL_law_499 ?_
  refine va_calli (va_runV (As := [.int (xs (i + 1)), .int (xs (i + 2))]) (rest := []) ⟨hx, hb, hml, hown, hts⟩ (hM H.size) (cwV 2 hts gL_law_X3_thing rfl rfl rfl (by decide +kernel) ⟨Nat.le_of_ble_eq_true rfl, Nat.le_of_ble_eq_true rfl⟩) (mP_V (r := (RX3, TX3, 11)) hN hE S_4 rfl) rfl rfl hl.1 rfl (lv_room (Nat.le_of_ble_eq_true rfl)) dL_law_500 ⟨by show _ ≤ 601024; omega, by show _ ≤ 7293034; omega⟩) hE.2.2.2 (fun q _ h => mE_A hE q h) (mE_A hE) (fun r2 uq tq H locs ht hvm hw hB hz1 hk1 hS => ?_)
  obtain ⟨v2, rfl, e0, eo, cs, hI⟩ := hw
  have hE : mE G (lA s) s.heap ad' (Sy cy ad' n' k' v2 o') H locs := mE_call hE hB ht hS
  refine lv_istore (lv' := [(6, .int r2), (5, .int (nI t)), (4, .int (nI i)), (3, .ref (ad' 12)), (2, .ref (ad' 4)), (1, .ref (ad' 0)), (0, .ref b)]) hx hb dL_law_503 hl (by decide) rfl (fun ls hl => ?_)
  refine lv_aload_n hx hb dL_law_505 rfl (lv_at hl 4 rfl) ?_
  refine va_calli (va_runV (As := []) (rest := []) ⟨hx, hb, hml, hown, hts⟩ (c_X3_thrown l G cy ad' n' k' n' k' v2 o' hn' hk' _ hI.2.2.1 hI.2.2.2.1) (cwV 0 hts gL_law_X3_thrown rfl rfl rfl (by decide +kernel) ⟨Nat.le_of_ble_eq_true rfl, Nat.le_of_ble_eq_true rfl⟩) (mP_V (r := (RX3, TX3, 11)) hN hE S_4 rfl) rfl rfl hl.1 rfl (lv_room (Nat.le_of_ble_eq_true rfl)) dL_law_506 ⟨by show _ ≤ 601024; omega, by show _ ≤ 7293034; omega⟩) hE.2.2.2 (fun q _ h => mE_A hE q h) (mE_A hE) (fun r3 uq tq H locs ht hvm hw hB hz1 hk1 hS => ?_)
  obtain ⟨rfl, rfl⟩ := hw
  have hE : mE G (lA s) s.heap ad' (Sy cy ad' n' k' v2 o') H locs := mE_call hE hB ht hS
  rw [e0]
  refine lv_iload hx hb dL_law_509 (lv_at hl 1 rfl) ?_
  refine mv_eq (tgt := 516) hx hb (by omega) (by omega) dL_law_511 (by decide) (fun c1 => ?_) (fun c1 => ?_)
  · skip
    refine lv_iload hx hb dL_law_516 (lv_at hl 1 rfl) ?_
    refine lv_if_ne (tgt := 533) hx hb dL_law_518 (by decide) (fun c2 => ?_) (fun c2 => ?_)
    · skip
      have c2 : ¬ t = 0 := fun h9 => c2 ((mz_eq (by omega)).mpr h9)
      refine lv_goto (tgt := 1316) hx hb dL_law_533 (by decide) ?_
      exact kk ad' n' k' v2 o' _ _ _ ⟨cs, hI⟩ hE (lv_sub hl [2, 3, 4, 5, 6] rfl)
    · skip
      have c2 := (mz_eq (by omega)).mp c2
      refine lv_aload_n hx hb dL_law_521 rfl (lv_at hl 3 rfl) ?_
      refine lv_iconst (v := nI 0) hx hb dL_law_522 (by decide) ?_
      refine mx_lald hx hb hN hE S_12 (j := 0) rfl (by decide) (by decide) dL_law_523 ?_
      refine lv_iload hx hb dL_law_524 (lv_at hl 0 rfl) ?_
      refine lv_i2l hx hb dL_law_526 rfl ?_
      rw [eo c2]
      refine W.lcmp hx hb dL_law_527 ?_
      rw [lg_same]
      refine lv_if_eq (tgt := 533) hx hb dL_law_528 (by decide) (fun c3 => ?_) (fun c3 => ?_)
      · skip
        refine lv_goto (tgt := 1316) hx hb dL_law_533 (by decide) ?_
        exact kk ad' n' k' v2 o' _ _ _ ⟨cs, hI⟩ hE (lv_sub hl [2, 3, 4, 5, 6] rfl)
      · skip
        exact absurd rfl c3
  · skip
    exact absurd rfl c1

set_option maxHeartbeats 4000000 in
set_option maxRecDepth 100000 in
/-- a step of the law: seal -/
theorem st_seal {p : Program} {l : Launch} {e : Env} {s : State} {m : MethodId} {below : List Frame} {meth : Method} {c : Code} {Q : State → Prop} {b L : Nat} {xs : Nat → Int32} (hx : p.tables.exec = Jvm.exec) (hb : c.code = cL_law) (hml : c.maxLocals = 9) (hown : s.vm.findClass RL = some m.cls) (hts : ∀ w ∈ wsL_law, w.before #[Value.ref b] s = true) (hX : va_X b L xs s s.heap) (hbl : b < s.heap.size) (hL : L ≤ 3584) {G : va_G} {cy : Nat → ClassId} (hN : mN G cy (lA s) s) {ad : Nat → Nat} {n k : Nat} {v : Nat → Nat → Int32} {o : Nat → Int64} {i : Nat} (hi : i + 7 ≤ L) {H : Heap} {locs : List Loc} {cells slots : Nat} (hcells : cells + 4 ≤ 601024) (hslots : slots + 60 ≤ 7293034) {ls : Array Slot} (hE : mE G (lA s) s.heap ad (Sy cy ad n k v o) H locs) (hl : lv_has ls 9 [(4, .int (nI i)), (3, .ref (ad 12)), (2, .ref (ad 4)), (1, .ref (ad 0)), (0, .ref b)]) {mc ms : Nat} (hmc : mc ≤ 4) (hms : ms ≤ 60) (hLc : mMi l yL_seal wsL_seal ({ frames := 9, cells := mc, slots := ms, locals := 180 }) G cy ad (Sy cy ad n k v o) H.size [.ref (ad 0), .int (xs (i + 1)), .ref (ad 12)] mc ms (fun (r : Int32) u => ∃ (t n' k' : Nat) (ad' : Nat → Nat) (v' : Nat → Nat → Int32) (o' : Nat → Int64), t ≤ 2 ∧ n' ≤ 6 ∧ k' ≤ 20 ∧ r = nI t ∧ u = (ad', Sy cy ad' n' k' v' o') ∧ ad' 0 = ad 0 ∧ ad' 4 = ad 4 ∧ ad' 12 = ad 12 ∧ ∀ sz' : Nat, mMi l yX3_seal wsX3_seal ({ frames := 10, cells := 0, slots := 0, locals := 220 }) G cy ad' (Sy cy ad' n' k' v' o') sz' [.ref (ad' 4), .int (xs (i + 1))] 0 0 (fun (r2 : Int32) u2 => ∃ v2 : Nat → Nat → Int32, u2 = (ad', Sy cy ad' n' k' v2 o') ∧ v2 4 0 = nI t ∧ (t = 0 → o' 0 = r2.toInt64) ∧ ∃ cs, mInv n' k' v2 cs))) (kk : ∀ (ad' : Nat → Nat) (n' k' : Nat) (v2 : Nat → Nat → Int32) (o' : Nat → Int64) (H' : Heap) (locs' : List Loc) (ls' : Array Slot), (∃ cs, mInv n' k' v2 cs) → mE G (lA s) s.heap ad' (Sy cy ad' n' k' v2 o') H' locs' → lv_has ls' 9 [(4, .int (nI i)), (3, .ref (ad' 12)), (2, .ref (ad' 4)), (1, .ref (ad' 0)), (0, .ref b)] → W p l e room_1 s m #[Value.ref b] below meth c H' locs' (cells + mc) (slots + ms) Q (F0 m 1316 ls' [])) : W p l e room_1 s m #[Value.ref b] below meth c H locs cells slots Q (F0 m 536 ls []) := by
  refine lv_aload_n hx hb dL_law_536 rfl (lv_at hl 3 rfl) ?_
  refine lv_aload_n hx hb dL_law_537 rfl (lv_at hl 4 rfl) ?_
  refine lv_iload hx hb dL_law_538 (lv_at hl 0 rfl) ?_
  refine lv_iconst (v := nI 1) hx hb dL_law_540 (by decide) ?_
  refine mv_iadd (z := nI (i + 1)) hx hb (nI_add _ _) dL_law_541 ?_
  refine mx_sld hx hb hX hbl hE (j := i + 1) rfl (by omega) hL dL_law_542 ?_
  refine lv_aload_n hx hb dL_law_543 rfl (lv_at hl 1 rfl) ?_
  refine va_calli (vx_runSW (As := [.ref (ad 0), .int (xs (i + 1)), .ref (ad 12)]) (rest := []) ⟨hx, hb, hml, hown, hts⟩ hLc (vx_cwSW 3 hts gL_law_L_seal rfl rfl rfl (by decide +kernel) ⟨Nat.le_of_ble_eq_true rfl, Nat.le_of_ble_eq_true rfl⟩) (mP_S hN hE) rfl rfl hl.1 rfl (lv_room (Nat.le_of_ble_eq_true rfl)) dL_law_544 ⟨by show _ ≤ 601024; omega, by show _ ≤ 7293034; omega⟩) hE.2.2.2 (fun q _ h => mE_A hE q h) (mE_A hE) (fun r uq tq H locs ht hvm hw hB hz1 hk1 hS => ?_)
  obtain ⟨t, n', k', ad', v', o', ht2, hn', hk', rfl, rfl, ea0, ea4, ea12, hM⟩ := hw
  have hE : mE G (lA s) s.heap ad' (Sy cy ad' n' k' v' o') H locs := mE_call hE hB ht hS
  rw [← ea12, ← ea4, ← ea0] at hl
  refine lv_istore (lv' := [(5, .int (nI t)), (4, .int (nI i)), (3, .ref (ad' 12)), (2, .ref (ad' 4)), (1, .ref (ad' 0)), (0, .ref b)]) hx hb dL_law_547 hl (by decide) rfl (fun ls hl => ?_)
  refine lv_aload_n hx hb dL_law_549 rfl (lv_at hl 3 rfl) ?_
  refine lv_aload_n hx hb dL_law_550 rfl (lv_at hl 5 rfl) ?_
  refine lv_iload hx hb dL_law_551 (lv_at hl 1 rfl) ?_
  refine lv_iconst (v := nI 1) hx hb dL_law_553 (by decide) ?_
  refine mv_iadd (z := nI (i + 1)) hx hb (nI_add _ _) dL_law_554 ?_
  refine mx_sld hx hb hX hbl hE (j := i + 1) rfl (by omega) hL dL_law_555 ?_
  refine va_calli (va_runV (As := [.int (xs (i + 1))]) (rest := []) ⟨hx, hb, hml, hown, hts⟩ (hM H.size) (cwV 1 hts gL_law_X3_seal rfl rfl rfl (by decide +kernel) ⟨Nat.le_of_ble_eq_true rfl, Nat.le_of_ble_eq_true rfl⟩) (mP_V (r := (RX3, TX3, 11)) hN hE S_4 rfl) rfl rfl hl.1 rfl (lv_room (Nat.le_of_ble_eq_true rfl)) dL_law_556 ⟨by show _ ≤ 601024; omega, by show _ ≤ 7293034; omega⟩) hE.2.2.2 (fun q _ h => mE_A hE q h) (mE_A hE) (fun r2 uq tq H locs ht hvm hw hB hz1 hk1 hS => ?_)
  obtain ⟨v2, rfl, e0, eo, cs, hI⟩ := hw
  have hE : mE G (lA s) s.heap ad' (Sy cy ad' n' k' v2 o') H locs := mE_call hE hB ht hS
  refine lv_istore (lv' := [(6, .int r2), (5, .int (nI t)), (4, .int (nI i)), (3, .ref (ad' 12)), (2, .ref (ad' 4)), (1, .ref (ad' 0)), (0, .ref b)]) hx hb dL_law_559 hl (by decide) rfl (fun ls hl => ?_)
  refine lv_aload_n hx hb dL_law_561 rfl (lv_at hl 4 rfl) ?_
  refine va_calli (va_runV (As := []) (rest := []) ⟨hx, hb, hml, hown, hts⟩ (c_X3_thrown l G cy ad' n' k' n' k' v2 o' hn' hk' _ hI.2.2.1 hI.2.2.2.1) (cwV 0 hts gL_law_X3_thrown rfl rfl rfl (by decide +kernel) ⟨Nat.le_of_ble_eq_true rfl, Nat.le_of_ble_eq_true rfl⟩) (mP_V (r := (RX3, TX3, 11)) hN hE S_4 rfl) rfl rfl hl.1 rfl (lv_room (Nat.le_of_ble_eq_true rfl)) dL_law_562 ⟨by show _ ≤ 601024; omega, by show _ ≤ 7293034; omega⟩) hE.2.2.2 (fun q _ h => mE_A hE q h) (mE_A hE) (fun r3 uq tq H locs ht hvm hw hB hz1 hk1 hS => ?_)
  obtain ⟨rfl, rfl⟩ := hw
  have hE : mE G (lA s) s.heap ad' (Sy cy ad' n' k' v2 o') H locs := mE_call hE hB ht hS
  rw [e0]
  refine lv_iload hx hb dL_law_565 (lv_at hl 1 rfl) ?_
  refine mv_eq (tgt := 572) hx hb (by omega) (by omega) dL_law_567 (by decide) (fun c1 => ?_) (fun c1 => ?_)
  · skip
    refine lv_iload hx hb dL_law_572 (lv_at hl 1 rfl) ?_
    refine lv_if_ne (tgt := 589) hx hb dL_law_574 (by decide) (fun c2 => ?_) (fun c2 => ?_)
    · skip
      have c2 : ¬ t = 0 := fun h9 => c2 ((mz_eq (by omega)).mpr h9)
      refine lv_goto (tgt := 1316) hx hb dL_law_589 (by decide) ?_
      exact kk ad' n' k' v2 o' _ _ _ ⟨cs, hI⟩ hE (lv_sub hl [2, 3, 4, 5, 6] rfl)
    · skip
      have c2 := (mz_eq (by omega)).mp c2
      refine lv_aload_n hx hb dL_law_577 rfl (lv_at hl 3 rfl) ?_
      refine lv_iconst (v := nI 0) hx hb dL_law_578 (by decide) ?_
      refine mx_lald hx hb hN hE S_12 (j := 0) rfl (by decide) (by decide) dL_law_579 ?_
      refine lv_iload hx hb dL_law_580 (lv_at hl 0 rfl) ?_
      refine lv_i2l hx hb dL_law_582 rfl ?_
      rw [eo c2]
      refine W.lcmp hx hb dL_law_583 ?_
      rw [lg_same]
      refine lv_if_eq (tgt := 589) hx hb dL_law_584 (by decide) (fun c3 => ?_) (fun c3 => ?_)
      · skip
        refine lv_goto (tgt := 1316) hx hb dL_law_589 (by decide) ?_
        exact kk ad' n' k' v2 o' _ _ _ ⟨cs, hI⟩ hE (lv_sub hl [2, 3, 4, 5, 6] rfl)
      · skip
        exact absurd rfl c3
  · skip
    exact absurd rfl c1

set_option maxHeartbeats 4000000 in
set_option maxRecDepth 100000 in
/-- a step of the law: about -/
theorem st_about {p : Program} {l : Launch} {e : Env} {s : State} {m : MethodId} {below : List Frame} {meth : Method} {c : Code} {Q : State → Prop} {b L : Nat} {xs : Nat → Int32} (hx : p.tables.exec = Jvm.exec) (hb : c.code = cL_law) (hml : c.maxLocals = 9) (hown : s.vm.findClass RL = some m.cls) (hts : ∀ w ∈ wsL_law, w.before #[Value.ref b] s = true) (hX : va_X b L xs s s.heap) (hbl : b < s.heap.size) (hL : L ≤ 3584) {G : va_G} {cy : Nat → ClassId} (hN : mN G cy (lA s) s) {ad : Nat → Nat} {n k : Nat} {v : Nat → Nat → Int32} {o : Nat → Int64} {i : Nat} (hi : i + 7 ≤ L) {H : Heap} {locs : List Loc} {cells slots : Nat} (hcells : cells + 4 ≤ 601024) (hslots : slots + 60 ≤ 7293034) {ls : Array Slot} (hE : mE G (lA s) s.heap ad (Sy cy ad n k v o) H locs) (hl : lv_has ls 9 [(4, .int (nI i)), (3, .ref (ad 12)), (2, .ref (ad 4)), (1, .ref (ad 0)), (0, .ref b)]) {mc ms : Nat} (hmc : mc ≤ 4) (hms : ms ≤ 60) (hLc : mMi l yL_about wsL_about ({ frames := 9, cells := mc, slots := ms, locals := 180 }) G cy ad (Sy cy ad n k v o) H.size [.ref (ad 0), .int (xs (i + 1)), .int (xs (i + 2)), .ref (ad 12)] mc ms (fun (r : Int32) u => ∃ (t n' k' : Nat) (ad' : Nat → Nat) (v' : Nat → Nat → Int32) (o' : Nat → Int64), t ≤ 2 ∧ n' ≤ 6 ∧ k' ≤ 20 ∧ r = nI t ∧ u = (ad', Sy cy ad' n' k' v' o') ∧ ad' 0 = ad 0 ∧ ad' 4 = ad 4 ∧ ad' 12 = ad 12 ∧ ∀ sz' : Nat, mMi l yX3_about wsX3_about ({ frames := 9, cells := 0, slots := 0, locals := 180 }) G cy ad' (Sy cy ad' n' k' v' o') sz' [.ref (ad' 4), .int (xs (i + 1)), .int (xs (i + 2))] 0 0 (fun (r2 : Int32) u2 => ∃ v2 : Nat → Nat → Int32, u2 = (ad', Sy cy ad' n' k' v2 o') ∧ v2 4 0 = nI t ∧ (t = 0 → o' 0 = r2.toInt64) ∧ ∃ cs, mInv n' k' v2 cs))) (kk : ∀ (ad' : Nat → Nat) (n' k' : Nat) (v2 : Nat → Nat → Int32) (o' : Nat → Int64) (H' : Heap) (locs' : List Loc) (ls' : Array Slot), (∃ cs, mInv n' k' v2 cs) → mE G (lA s) s.heap ad' (Sy cy ad' n' k' v2 o') H' locs' → lv_has ls' 9 [(4, .int (nI i)), (3, .ref (ad' 12)), (2, .ref (ad' 4)), (1, .ref (ad' 0)), (0, .ref b)] → W p l e room_1 s m #[Value.ref b] below meth c H' locs' (cells + mc) (slots + ms) Q (F0 m 1316 ls' [])) : W p l e room_1 s m #[Value.ref b] below meth c H locs cells slots Q (F0 m 592 ls []) := by
  refine lv_aload_n hx hb dL_law_592 rfl (lv_at hl 3 rfl) ?_
  refine lv_aload_n hx hb dL_law_593 rfl (lv_at hl 4 rfl) ?_
  refine lv_iload hx hb dL_law_594 (lv_at hl 0 rfl) ?_
  refine lv_iconst (v := nI 1) hx hb dL_law_596 (by decide) ?_
  refine mv_iadd (z := nI (i + 1)) hx hb (nI_add _ _) dL_law_597 ?_
  refine mx_sld hx hb hX hbl hE (j := i + 1) rfl (by omega) hL dL_law_598 ?_
  refine lv_aload_n hx hb dL_law_599 rfl (lv_at hl 4 rfl) ?_
  refine lv_iload hx hb dL_law_600 (lv_at hl 0 rfl) ?_
  refine lv_iconst (v := nI 2) hx hb dL_law_602 (by decide) ?_
  refine mv_iadd (z := nI (i + 2)) hx hb (nI_add _ _) dL_law_603 ?_
  refine mx_sld hx hb hX hbl hE (j := i + 2) rfl (by omega) hL dL_law_604 ?_
  refine lv_aload_n hx hb dL_law_605 rfl (lv_at hl 1 rfl) ?_
  refine va_calli (vx_runSW (As := [.ref (ad 0), .int (xs (i + 1)), .int (xs (i + 2)), .ref (ad 12)]) (rest := []) ⟨hx, hb, hml, hown, hts⟩ hLc (vx_cwSW 4 hts gL_law_L_about rfl rfl rfl (by decide +kernel) ⟨Nat.le_of_ble_eq_true rfl, Nat.le_of_ble_eq_true rfl⟩) (mP_S hN hE) rfl rfl hl.1 rfl (lv_room (Nat.le_of_ble_eq_true rfl)) dL_law_606 ⟨by show _ ≤ 601024; omega, by show _ ≤ 7293034; omega⟩) hE.2.2.2 (fun q _ h => mE_A hE q h) (mE_A hE) (fun r uq tq H locs ht hvm hw hB hz1 hk1 hS => ?_)
  obtain ⟨t, n', k', ad', v', o', ht2, hn', hk', rfl, rfl, ea0, ea4, ea12, hM⟩ := hw
  have hE : mE G (lA s) s.heap ad' (Sy cy ad' n' k' v' o') H locs := mE_call hE hB ht hS
  rw [← ea12, ← ea4, ← ea0] at hl
  refine lv_istore (lv' := [(5, .int (nI t)), (4, .int (nI i)), (3, .ref (ad' 12)), (2, .ref (ad' 4)), (1, .ref (ad' 0)), (0, .ref b)]) hx hb dL_law_609 hl (by decide) rfl (fun ls hl => ?_)
  refine lv_aload_n hx hb dL_law_611 rfl (lv_at hl 3 rfl) ?_
  refine lv_aload_n hx hb dL_law_612 rfl (lv_at hl 5 rfl) ?_
  refine lv_iload hx hb dL_law_613 (lv_at hl 1 rfl) ?_
  refine lv_iconst (v := nI 1) hx hb dL_law_615 (by decide) ?_
  refine mv_iadd (z := nI (i + 1)) hx hb (nI_add _ _) dL_law_616 ?_
  refine mx_sld hx hb hX hbl hE (j := i + 1) rfl (by omega) hL dL_law_617 ?_
  refine lv_aload_n hx hb dL_law_618 rfl (lv_at hl 5 rfl) ?_
  refine lv_iload hx hb dL_law_619 (lv_at hl 1 rfl) ?_
  refine lv_iconst (v := nI 2) hx hb dL_law_621 (by decide) ?_
  refine mv_iadd (z := nI (i + 2)) hx hb (nI_add _ _) dL_law_622 ?_
  refine mx_sld hx hb hX hbl hE (j := i + 2) rfl (by omega) hL dL_law_623 ?_
  refine va_calli (va_runV (As := [.int (xs (i + 1)), .int (xs (i + 2))]) (rest := []) ⟨hx, hb, hml, hown, hts⟩ (hM H.size) (cwV 2 hts gL_law_X3_about rfl rfl rfl (by decide +kernel) ⟨Nat.le_of_ble_eq_true rfl, Nat.le_of_ble_eq_true rfl⟩) (mP_V (r := (RX3, TX3, 11)) hN hE S_4 rfl) rfl rfl hl.1 rfl (lv_room (Nat.le_of_ble_eq_true rfl)) dL_law_624 ⟨by show _ ≤ 601024; omega, by show _ ≤ 7293034; omega⟩) hE.2.2.2 (fun q _ h => mE_A hE q h) (mE_A hE) (fun r2 uq tq H locs ht hvm hw hB hz1 hk1 hS => ?_)
  obtain ⟨v2, rfl, e0, eo, cs, hI⟩ := hw
  have hE : mE G (lA s) s.heap ad' (Sy cy ad' n' k' v2 o') H locs := mE_call hE hB ht hS
  refine lv_istore (lv' := [(6, .int r2), (5, .int (nI t)), (4, .int (nI i)), (3, .ref (ad' 12)), (2, .ref (ad' 4)), (1, .ref (ad' 0)), (0, .ref b)]) hx hb dL_law_627 hl (by decide) rfl (fun ls hl => ?_)
  refine lv_aload_n hx hb dL_law_629 rfl (lv_at hl 4 rfl) ?_
  refine va_calli (va_runV (As := []) (rest := []) ⟨hx, hb, hml, hown, hts⟩ (c_X3_thrown l G cy ad' n' k' n' k' v2 o' hn' hk' _ hI.2.2.1 hI.2.2.2.1) (cwV 0 hts gL_law_X3_thrown rfl rfl rfl (by decide +kernel) ⟨Nat.le_of_ble_eq_true rfl, Nat.le_of_ble_eq_true rfl⟩) (mP_V (r := (RX3, TX3, 11)) hN hE S_4 rfl) rfl rfl hl.1 rfl (lv_room (Nat.le_of_ble_eq_true rfl)) dL_law_630 ⟨by show _ ≤ 601024; omega, by show _ ≤ 7293034; omega⟩) hE.2.2.2 (fun q _ h => mE_A hE q h) (mE_A hE) (fun r3 uq tq H locs ht hvm hw hB hz1 hk1 hS => ?_)
  obtain ⟨rfl, rfl⟩ := hw
  have hE : mE G (lA s) s.heap ad' (Sy cy ad' n' k' v2 o') H locs := mE_call hE hB ht hS
  rw [e0]
  refine lv_iload hx hb dL_law_633 (lv_at hl 1 rfl) ?_
  refine mv_eq (tgt := 640) hx hb (by omega) (by omega) dL_law_635 (by decide) (fun c1 => ?_) (fun c1 => ?_)
  · skip
    refine lv_iload hx hb dL_law_640 (lv_at hl 1 rfl) ?_
    refine lv_if_ne (tgt := 657) hx hb dL_law_642 (by decide) (fun c2 => ?_) (fun c2 => ?_)
    · skip
      have c2 : ¬ t = 0 := fun h9 => c2 ((mz_eq (by omega)).mpr h9)
      refine lv_goto (tgt := 1316) hx hb dL_law_657 (by decide) ?_
      exact kk ad' n' k' v2 o' _ _ _ ⟨cs, hI⟩ hE (lv_sub hl [2, 3, 4, 5, 6] rfl)
    · skip
      have c2 := (mz_eq (by omega)).mp c2
      refine lv_aload_n hx hb dL_law_645 rfl (lv_at hl 3 rfl) ?_
      refine lv_iconst (v := nI 0) hx hb dL_law_646 (by decide) ?_
      refine mx_lald hx hb hN hE S_12 (j := 0) rfl (by decide) (by decide) dL_law_647 ?_
      refine lv_iload hx hb dL_law_648 (lv_at hl 0 rfl) ?_
      refine lv_i2l hx hb dL_law_650 rfl ?_
      rw [eo c2]
      refine W.lcmp hx hb dL_law_651 ?_
      rw [lg_same]
      refine lv_if_eq (tgt := 657) hx hb dL_law_652 (by decide) (fun c3 => ?_) (fun c3 => ?_)
      · skip
        refine lv_goto (tgt := 1316) hx hb dL_law_657 (by decide) ?_
        exact kk ad' n' k' v2 o' _ _ _ ⟨cs, hI⟩ hE (lv_sub hl [2, 3, 4, 5, 6] rfl)
      · skip
        exact absurd rfl c3
  · skip
    exact absurd rfl c1

set_option maxHeartbeats 4000000 in
set_option maxRecDepth 100000 in
/-- a step of the law: proof -/
theorem st_proof {p : Program} {l : Launch} {e : Env} {s : State} {m : MethodId} {below : List Frame} {meth : Method} {c : Code} {Q : State → Prop} {b L : Nat} {xs : Nat → Int32} (hx : p.tables.exec = Jvm.exec) (hb : c.code = cL_law) (hml : c.maxLocals = 9) (hown : s.vm.findClass RL = some m.cls) (hts : ∀ w ∈ wsL_law, w.before #[Value.ref b] s = true) (hX : va_X b L xs s s.heap) (hbl : b < s.heap.size) (hL : L ≤ 3584) {G : va_G} {cy : Nat → ClassId} (hN : mN G cy (lA s) s) {ad : Nat → Nat} {n k : Nat} {v : Nat → Nat → Int32} {o : Nat → Int64} {i : Nat} (hi : i + 7 ≤ L) {H : Heap} {locs : List Loc} {cells slots : Nat} (hcells : cells + 4 ≤ 601024) (hslots : slots + 60 ≤ 7293034) {ls : Array Slot} (hE : mE G (lA s) s.heap ad (Sy cy ad n k v o) H locs) (hl : lv_has ls 9 [(4, .int (nI i)), (3, .ref (ad 12)), (2, .ref (ad 4)), (1, .ref (ad 0)), (0, .ref b)]) {mc ms : Nat} (hmc : mc ≤ 4) (hms : ms ≤ 60) (hLc : mMi l yL_proof wsL_proof ({ frames := 9, cells := mc, slots := ms, locals := 180 }) G cy ad (Sy cy ad n k v o) H.size [.ref (ad 0), .int (xs (i + 1)), .int (xs (i + 2)), .int (xs (i + 3)), .ref (ad 12)] mc ms (fun (r : Int32) u => ∃ (t n' k' : Nat) (ad' : Nat → Nat) (v' : Nat → Nat → Int32) (o' : Nat → Int64), t ≤ 2 ∧ n' ≤ 6 ∧ k' ≤ 20 ∧ r = nI t ∧ u = (ad', Sy cy ad' n' k' v' o') ∧ ad' 0 = ad 0 ∧ ad' 4 = ad 4 ∧ ad' 12 = ad 12 ∧ ∀ sz' : Nat, mMi l yX3_proof wsX3_proof ({ frames := 9, cells := 0, slots := 0, locals := 180 }) G cy ad' (Sy cy ad' n' k' v' o') sz' [.ref (ad' 4), .int (xs (i + 1)), .int (xs (i + 2)), .int (xs (i + 3))] 0 0 (fun (r2 : Int32) u2 => ∃ v2 : Nat → Nat → Int32, u2 = (ad', Sy cy ad' n' k' v2 o') ∧ v2 4 0 = nI t ∧ (t = 0 → o' 0 = r2.toInt64) ∧ ∃ cs, mInv n' k' v2 cs))) (kk : ∀ (ad' : Nat → Nat) (n' k' : Nat) (v2 : Nat → Nat → Int32) (o' : Nat → Int64) (H' : Heap) (locs' : List Loc) (ls' : Array Slot), (∃ cs, mInv n' k' v2 cs) → mE G (lA s) s.heap ad' (Sy cy ad' n' k' v2 o') H' locs' → lv_has ls' 9 [(4, .int (nI i)), (3, .ref (ad' 12)), (2, .ref (ad' 4)), (1, .ref (ad' 0)), (0, .ref b)] → W p l e room_1 s m #[Value.ref b] below meth c H' locs' (cells + mc) (slots + ms) Q (F0 m 1316 ls' [])) : W p l e room_1 s m #[Value.ref b] below meth c H locs cells slots Q (F0 m 660 ls []) := by
  refine lv_aload_n hx hb dL_law_660 rfl (lv_at hl 3 rfl) ?_
  refine lv_aload_n hx hb dL_law_661 rfl (lv_at hl 4 rfl) ?_
  refine lv_iload hx hb dL_law_662 (lv_at hl 0 rfl) ?_
  refine lv_iconst (v := nI 1) hx hb dL_law_664 (by decide) ?_
  refine mv_iadd (z := nI (i + 1)) hx hb (nI_add _ _) dL_law_665 ?_
  refine mx_sld hx hb hX hbl hE (j := i + 1) rfl (by omega) hL dL_law_666 ?_
  refine lv_aload_n hx hb dL_law_667 rfl (lv_at hl 4 rfl) ?_
  refine lv_iload hx hb dL_law_668 (lv_at hl 0 rfl) ?_
  refine lv_iconst (v := nI 2) hx hb dL_law_670 (by decide) ?_
  refine mv_iadd (z := nI (i + 2)) hx hb (nI_add _ _) dL_law_671 ?_
  refine mx_sld hx hb hX hbl hE (j := i + 2) rfl (by omega) hL dL_law_672 ?_
  refine lv_aload_n hx hb dL_law_673 rfl (lv_at hl 4 rfl) ?_
  refine lv_iload hx hb dL_law_674 (lv_at hl 0 rfl) ?_
  refine lv_iconst (v := nI 3) hx hb dL_law_676 (by decide) ?_
  refine mv_iadd (z := nI (i + 3)) hx hb (nI_add _ _) dL_law_677 ?_
  refine mx_sld hx hb hX hbl hE (j := i + 3) rfl (by omega) hL dL_law_678 ?_
  refine lv_aload_n hx hb dL_law_679 rfl (lv_at hl 1 rfl) ?_
  refine va_calli (vx_runSW (As := [.ref (ad 0), .int (xs (i + 1)), .int (xs (i + 2)), .int (xs (i + 3)), .ref (ad 12)]) (rest := []) ⟨hx, hb, hml, hown, hts⟩ hLc (vx_cwSW 5 hts gL_law_L_proof rfl rfl rfl (by decide +kernel) ⟨Nat.le_of_ble_eq_true rfl, Nat.le_of_ble_eq_true rfl⟩) (mP_S hN hE) rfl rfl hl.1 rfl (lv_room (Nat.le_of_ble_eq_true rfl)) dL_law_680 ⟨by show _ ≤ 601024; omega, by show _ ≤ 7293034; omega⟩) hE.2.2.2 (fun q _ h => mE_A hE q h) (mE_A hE) (fun r uq tq H locs ht hvm hw hB hz1 hk1 hS => ?_)
  obtain ⟨t, n', k', ad', v', o', ht2, hn', hk', rfl, rfl, ea0, ea4, ea12, hM⟩ := hw
  have hE : mE G (lA s) s.heap ad' (Sy cy ad' n' k' v' o') H locs := mE_call hE hB ht hS
  rw [← ea12, ← ea4, ← ea0] at hl
  refine lv_istore (lv' := [(5, .int (nI t)), (4, .int (nI i)), (3, .ref (ad' 12)), (2, .ref (ad' 4)), (1, .ref (ad' 0)), (0, .ref b)]) hx hb dL_law_683 hl (by decide) rfl (fun ls hl => ?_)
  refine lv_aload_n hx hb dL_law_685 rfl (lv_at hl 3 rfl) ?_
  refine lv_aload_n hx hb dL_law_686 rfl (lv_at hl 5 rfl) ?_
  refine lv_iload hx hb dL_law_687 (lv_at hl 1 rfl) ?_
  refine lv_iconst (v := nI 1) hx hb dL_law_689 (by decide) ?_
  refine mv_iadd (z := nI (i + 1)) hx hb (nI_add _ _) dL_law_690 ?_
  refine mx_sld hx hb hX hbl hE (j := i + 1) rfl (by omega) hL dL_law_691 ?_
  refine lv_aload_n hx hb dL_law_692 rfl (lv_at hl 5 rfl) ?_
  refine lv_iload hx hb dL_law_693 (lv_at hl 1 rfl) ?_
  refine lv_iconst (v := nI 2) hx hb dL_law_695 (by decide) ?_
  refine mv_iadd (z := nI (i + 2)) hx hb (nI_add _ _) dL_law_696 ?_
  refine mx_sld hx hb hX hbl hE (j := i + 2) rfl (by omega) hL dL_law_697 ?_
  refine lv_aload_n hx hb dL_law_698 rfl (lv_at hl 5 rfl) ?_
  refine lv_iload hx hb dL_law_699 (lv_at hl 1 rfl) ?_
  refine lv_iconst (v := nI 3) hx hb dL_law_701 (by decide) ?_
  refine mv_iadd (z := nI (i + 3)) hx hb (nI_add _ _) dL_law_702 ?_
  refine mx_sld hx hb hX hbl hE (j := i + 3) rfl (by omega) hL dL_law_703 ?_
  refine va_calli (va_runV (As := [.int (xs (i + 1)), .int (xs (i + 2)), .int (xs (i + 3))]) (rest := []) ⟨hx, hb, hml, hown, hts⟩ (hM H.size) (cwV 3 hts gL_law_X3_proof rfl rfl rfl (by decide +kernel) ⟨Nat.le_of_ble_eq_true rfl, Nat.le_of_ble_eq_true rfl⟩) (mP_V (r := (RX3, TX3, 11)) hN hE S_4 rfl) rfl rfl hl.1 rfl (lv_room (Nat.le_of_ble_eq_true rfl)) dL_law_704 ⟨by show _ ≤ 601024; omega, by show _ ≤ 7293034; omega⟩) hE.2.2.2 (fun q _ h => mE_A hE q h) (mE_A hE) (fun r2 uq tq H locs ht hvm hw hB hz1 hk1 hS => ?_)
  obtain ⟨v2, rfl, e0, eo, cs, hI⟩ := hw
  have hE : mE G (lA s) s.heap ad' (Sy cy ad' n' k' v2 o') H locs := mE_call hE hB ht hS
  refine lv_istore (lv' := [(6, .int r2), (5, .int (nI t)), (4, .int (nI i)), (3, .ref (ad' 12)), (2, .ref (ad' 4)), (1, .ref (ad' 0)), (0, .ref b)]) hx hb dL_law_707 hl (by decide) rfl (fun ls hl => ?_)
  refine lv_aload_n hx hb dL_law_709 rfl (lv_at hl 4 rfl) ?_
  refine va_calli (va_runV (As := []) (rest := []) ⟨hx, hb, hml, hown, hts⟩ (c_X3_thrown l G cy ad' n' k' n' k' v2 o' hn' hk' _ hI.2.2.1 hI.2.2.2.1) (cwV 0 hts gL_law_X3_thrown rfl rfl rfl (by decide +kernel) ⟨Nat.le_of_ble_eq_true rfl, Nat.le_of_ble_eq_true rfl⟩) (mP_V (r := (RX3, TX3, 11)) hN hE S_4 rfl) rfl rfl hl.1 rfl (lv_room (Nat.le_of_ble_eq_true rfl)) dL_law_710 ⟨by show _ ≤ 601024; omega, by show _ ≤ 7293034; omega⟩) hE.2.2.2 (fun q _ h => mE_A hE q h) (mE_A hE) (fun r3 uq tq H locs ht hvm hw hB hz1 hk1 hS => ?_)
  obtain ⟨rfl, rfl⟩ := hw
  have hE : mE G (lA s) s.heap ad' (Sy cy ad' n' k' v2 o') H locs := mE_call hE hB ht hS
  rw [e0]
  refine lv_iload hx hb dL_law_713 (lv_at hl 1 rfl) ?_
  refine mv_eq (tgt := 720) hx hb (by omega) (by omega) dL_law_715 (by decide) (fun c1 => ?_) (fun c1 => ?_)
  · skip
    refine lv_iload hx hb dL_law_720 (lv_at hl 1 rfl) ?_
    refine lv_if_ne (tgt := 737) hx hb dL_law_722 (by decide) (fun c2 => ?_) (fun c2 => ?_)
    · skip
      have c2 : ¬ t = 0 := fun h9 => c2 ((mz_eq (by omega)).mpr h9)
      refine lv_goto (tgt := 1316) hx hb dL_law_737 (by decide) ?_
      exact kk ad' n' k' v2 o' _ _ _ ⟨cs, hI⟩ hE (lv_sub hl [2, 3, 4, 5, 6] rfl)
    · skip
      have c2 := (mz_eq (by omega)).mp c2
      refine lv_aload_n hx hb dL_law_725 rfl (lv_at hl 3 rfl) ?_
      refine lv_iconst (v := nI 0) hx hb dL_law_726 (by decide) ?_
      refine mx_lald hx hb hN hE S_12 (j := 0) rfl (by decide) (by decide) dL_law_727 ?_
      refine lv_iload hx hb dL_law_728 (lv_at hl 0 rfl) ?_
      refine lv_i2l hx hb dL_law_730 rfl ?_
      rw [eo c2]
      refine W.lcmp hx hb dL_law_731 ?_
      rw [lg_same]
      refine lv_if_eq (tgt := 737) hx hb dL_law_732 (by decide) (fun c3 => ?_) (fun c3 => ?_)
      · skip
        refine lv_goto (tgt := 1316) hx hb dL_law_737 (by decide) ?_
        exact kk ad' n' k' v2 o' _ _ _ ⟨cs, hI⟩ hE (lv_sub hl [2, 3, 4, 5, 6] rfl)
      · skip
        exact absurd rfl c3
  · skip
    exact absurd rfl c1

set_option maxHeartbeats 4000000 in
set_option maxRecDepth 100000 in
/-- a step of the law: comes -/
theorem st_comes {p : Program} {l : Launch} {e : Env} {s : State} {m : MethodId} {below : List Frame} {meth : Method} {c : Code} {Q : State → Prop} {b L : Nat} {xs : Nat → Int32} (hx : p.tables.exec = Jvm.exec) (hb : c.code = cL_law) (hml : c.maxLocals = 9) (hown : s.vm.findClass RL = some m.cls) (hts : ∀ w ∈ wsL_law, w.before #[Value.ref b] s = true) (hX : va_X b L xs s s.heap) (hbl : b < s.heap.size) (hL : L ≤ 3584) {G : va_G} {cy : Nat → ClassId} (hN : mN G cy (lA s) s) {ad : Nat → Nat} {n k : Nat} {v : Nat → Nat → Int32} {o : Nat → Int64} {i : Nat} (hi : i + 7 ≤ L) {H : Heap} {locs : List Loc} {cells slots : Nat} (hcells : cells + 4 ≤ 601024) (hslots : slots + 60 ≤ 7293034) {ls : Array Slot} (hE : mE G (lA s) s.heap ad (Sy cy ad n k v o) H locs) (hl : lv_has ls 9 [(4, .int (nI i)), (3, .ref (ad 12)), (2, .ref (ad 4)), (1, .ref (ad 0)), (0, .ref b)]) {mc ms : Nat} (hmc : mc ≤ 4) (hms : ms ≤ 60) (hLc : mMi l yL_comes wsL_comes ({ frames := 10, cells := mc, slots := ms, locals := 220 }) G cy ad (Sy cy ad n k v o) H.size [.ref (ad 0), .int (xs (i + 1)), .int (xs (i + 2)), .int (xs (i + 3)), .int (xs (i + 4)), .int (xs (i + 5)), .int (xs (i + 6)), .ref (ad 12)] mc ms (fun (r : Int32) u => ∃ (t n' k' : Nat) (ad' : Nat → Nat) (v' : Nat → Nat → Int32) (o' : Nat → Int64), t ≤ 2 ∧ n' ≤ 6 ∧ k' ≤ 20 ∧ r = nI t ∧ u = (ad', Sy cy ad' n' k' v' o') ∧ ad' 0 = ad 0 ∧ ad' 4 = ad 4 ∧ ad' 12 = ad 12 ∧ ∀ sz' : Nat, mMi l yX3_comes wsX3_comes ({ frames := 10, cells := 0, slots := 0, locals := 220 }) G cy ad' (Sy cy ad' n' k' v' o') sz' [.ref (ad' 4), .int (xs (i + 1)), .int (xs (i + 2)), .int (xs (i + 3)), .int (xs (i + 4)), .int (xs (i + 5)), .int (xs (i + 6))] 0 0 (fun (r2 : Int32) u2 => ∃ v2 : Nat → Nat → Int32, u2 = (ad', Sy cy ad' n' k' v2 o') ∧ v2 4 0 = nI t ∧ (t = 0 → o' 0 = r2.toInt64) ∧ ∃ cs, mInv n' k' v2 cs))) (kk : ∀ (ad' : Nat → Nat) (n' k' : Nat) (v2 : Nat → Nat → Int32) (o' : Nat → Int64) (H' : Heap) (locs' : List Loc) (ls' : Array Slot), (∃ cs, mInv n' k' v2 cs) → mE G (lA s) s.heap ad' (Sy cy ad' n' k' v2 o') H' locs' → lv_has ls' 9 [(4, .int (nI i)), (3, .ref (ad' 12)), (2, .ref (ad' 4)), (1, .ref (ad' 0)), (0, .ref b)] → W p l e room_1 s m #[Value.ref b] below meth c H' locs' (cells + mc) (slots + ms) Q (F0 m 1316 ls' [])) : W p l e room_1 s m #[Value.ref b] below meth c H locs cells slots Q (F0 m 740 ls []) := by
  refine lv_aload_n hx hb dL_law_740 rfl (lv_at hl 3 rfl) ?_
  refine lv_aload_n hx hb dL_law_741 rfl (lv_at hl 4 rfl) ?_
  refine lv_iload hx hb dL_law_742 (lv_at hl 0 rfl) ?_
  refine lv_iconst (v := nI 1) hx hb dL_law_744 (by decide) ?_
  refine mv_iadd (z := nI (i + 1)) hx hb (nI_add _ _) dL_law_745 ?_
  refine mx_sld hx hb hX hbl hE (j := i + 1) rfl (by omega) hL dL_law_746 ?_
  refine lv_aload_n hx hb dL_law_747 rfl (lv_at hl 4 rfl) ?_
  refine lv_iload hx hb dL_law_748 (lv_at hl 0 rfl) ?_
  refine lv_iconst (v := nI 2) hx hb dL_law_750 (by decide) ?_
  refine mv_iadd (z := nI (i + 2)) hx hb (nI_add _ _) dL_law_751 ?_
  refine mx_sld hx hb hX hbl hE (j := i + 2) rfl (by omega) hL dL_law_752 ?_
  refine lv_aload_n hx hb dL_law_753 rfl (lv_at hl 4 rfl) ?_
  refine lv_iload hx hb dL_law_754 (lv_at hl 0 rfl) ?_
  refine lv_iconst (v := nI 3) hx hb dL_law_756 (by decide) ?_
  refine mv_iadd (z := nI (i + 3)) hx hb (nI_add _ _) dL_law_757 ?_
  refine mx_sld hx hb hX hbl hE (j := i + 3) rfl (by omega) hL dL_law_758 ?_
  refine lv_aload_n hx hb dL_law_759 rfl (lv_at hl 4 rfl) ?_
  refine lv_iload hx hb dL_law_760 (lv_at hl 0 rfl) ?_
  refine lv_iconst (v := nI 4) hx hb dL_law_762 (by decide) ?_
  refine mv_iadd (z := nI (i + 4)) hx hb (nI_add _ _) dL_law_763 ?_
  refine mx_sld hx hb hX hbl hE (j := i + 4) rfl (by omega) hL dL_law_764 ?_
  refine lv_aload_n hx hb dL_law_765 rfl (lv_at hl 4 rfl) ?_
  refine lv_iload hx hb dL_law_766 (lv_at hl 0 rfl) ?_
  refine lv_iconst (v := nI 5) hx hb dL_law_768 (by decide) ?_
  refine mv_iadd (z := nI (i + 5)) hx hb (nI_add _ _) dL_law_769 ?_
  refine mx_sld hx hb hX hbl hE (j := i + 5) rfl (by omega) hL dL_law_770 ?_
  refine lv_aload_n hx hb dL_law_771 rfl (lv_at hl 4 rfl) ?_
  refine lv_iload hx hb dL_law_772 (lv_at hl 0 rfl) ?_
  refine lv_bipush (v := nI 6) hx hb dL_law_774 (by decide) ?_
  refine mv_iadd (z := nI (i + 6)) hx hb (nI_add _ _) dL_law_776 ?_
  refine mx_sld hx hb hX hbl hE (j := i + 6) rfl (by omega) hL dL_law_777 ?_
  refine lv_aload_n hx hb dL_law_778 rfl (lv_at hl 1 rfl) ?_
  refine va_calli (vx_runSW (As := [.ref (ad 0), .int (xs (i + 1)), .int (xs (i + 2)), .int (xs (i + 3)), .int (xs (i + 4)), .int (xs (i + 5)), .int (xs (i + 6)), .ref (ad 12)]) (rest := []) ⟨hx, hb, hml, hown, hts⟩ hLc (vx_cwSW 8 hts gL_law_L_comes rfl rfl rfl (by decide +kernel) ⟨Nat.le_of_ble_eq_true rfl, Nat.le_of_ble_eq_true rfl⟩) (mP_S hN hE) rfl rfl hl.1 rfl (lv_room (Nat.le_of_ble_eq_true rfl)) dL_law_779 ⟨by show _ ≤ 601024; omega, by show _ ≤ 7293034; omega⟩) hE.2.2.2 (fun q _ h => mE_A hE q h) (mE_A hE) (fun r uq tq H locs ht hvm hw hB hz1 hk1 hS => ?_)
  obtain ⟨t, n', k', ad', v', o', ht2, hn', hk', rfl, rfl, ea0, ea4, ea12, hM⟩ := hw
  have hE : mE G (lA s) s.heap ad' (Sy cy ad' n' k' v' o') H locs := mE_call hE hB ht hS
  rw [← ea12, ← ea4, ← ea0] at hl
  refine lv_istore (lv' := [(5, .int (nI t)), (4, .int (nI i)), (3, .ref (ad' 12)), (2, .ref (ad' 4)), (1, .ref (ad' 0)), (0, .ref b)]) hx hb dL_law_782 hl (by decide) rfl (fun ls hl => ?_)
  refine lv_aload_n hx hb dL_law_784 rfl (lv_at hl 3 rfl) ?_
  refine lv_aload_n hx hb dL_law_785 rfl (lv_at hl 5 rfl) ?_
  refine lv_iload hx hb dL_law_786 (lv_at hl 1 rfl) ?_
  refine lv_iconst (v := nI 1) hx hb dL_law_788 (by decide) ?_
  refine mv_iadd (z := nI (i + 1)) hx hb (nI_add _ _) dL_law_789 ?_
  refine mx_sld hx hb hX hbl hE (j := i + 1) rfl (by omega) hL dL_law_790 ?_
  refine lv_aload_n hx hb dL_law_791 rfl (lv_at hl 5 rfl) ?_
  refine lv_iload hx hb dL_law_792 (lv_at hl 1 rfl) ?_
  refine lv_iconst (v := nI 2) hx hb dL_law_794 (by decide) ?_
  refine mv_iadd (z := nI (i + 2)) hx hb (nI_add _ _) dL_law_795 ?_
  refine mx_sld hx hb hX hbl hE (j := i + 2) rfl (by omega) hL dL_law_796 ?_
  refine lv_aload_n hx hb dL_law_797 rfl (lv_at hl 5 rfl) ?_
  refine lv_iload hx hb dL_law_798 (lv_at hl 1 rfl) ?_
  refine lv_iconst (v := nI 3) hx hb dL_law_800 (by decide) ?_
  refine mv_iadd (z := nI (i + 3)) hx hb (nI_add _ _) dL_law_801 ?_
  refine mx_sld hx hb hX hbl hE (j := i + 3) rfl (by omega) hL dL_law_802 ?_
  refine lv_aload_n hx hb dL_law_803 rfl (lv_at hl 5 rfl) ?_
  refine lv_iload hx hb dL_law_804 (lv_at hl 1 rfl) ?_
  refine lv_iconst (v := nI 4) hx hb dL_law_806 (by decide) ?_
  refine mv_iadd (z := nI (i + 4)) hx hb (nI_add _ _) dL_law_807 ?_
  refine mx_sld hx hb hX hbl hE (j := i + 4) rfl (by omega) hL dL_law_808 ?_
  refine lv_aload_n hx hb dL_law_809 rfl (lv_at hl 5 rfl) ?_
  refine lv_iload hx hb dL_law_810 (lv_at hl 1 rfl) ?_
  refine lv_iconst (v := nI 5) hx hb dL_law_812 (by decide) ?_
  refine mv_iadd (z := nI (i + 5)) hx hb (nI_add _ _) dL_law_813 ?_
  refine mx_sld hx hb hX hbl hE (j := i + 5) rfl (by omega) hL dL_law_814 ?_
  refine lv_aload_n hx hb dL_law_815 rfl (lv_at hl 5 rfl) ?_
  refine lv_iload hx hb dL_law_816 (lv_at hl 1 rfl) ?_
  refine lv_bipush (v := nI 6) hx hb dL_law_818 (by decide) ?_
  refine mv_iadd (z := nI (i + 6)) hx hb (nI_add _ _) dL_law_820 ?_
  refine mx_sld hx hb hX hbl hE (j := i + 6) rfl (by omega) hL dL_law_821 ?_
  refine va_calli (va_runV (As := [.int (xs (i + 1)), .int (xs (i + 2)), .int (xs (i + 3)), .int (xs (i + 4)), .int (xs (i + 5)), .int (xs (i + 6))]) (rest := []) ⟨hx, hb, hml, hown, hts⟩ (hM H.size) (cwV 6 hts gL_law_X3_comes rfl rfl rfl (by decide +kernel) ⟨Nat.le_of_ble_eq_true rfl, Nat.le_of_ble_eq_true rfl⟩) (mP_V (r := (RX3, TX3, 11)) hN hE S_4 rfl) rfl rfl hl.1 rfl (lv_room (Nat.le_of_ble_eq_true rfl)) dL_law_822 ⟨by show _ ≤ 601024; omega, by show _ ≤ 7293034; omega⟩) hE.2.2.2 (fun q _ h => mE_A hE q h) (mE_A hE) (fun r2 uq tq H locs ht hvm hw hB hz1 hk1 hS => ?_)
  obtain ⟨v2, rfl, e0, eo, cs, hI⟩ := hw
  have hE : mE G (lA s) s.heap ad' (Sy cy ad' n' k' v2 o') H locs := mE_call hE hB ht hS
  refine lv_istore (lv' := [(6, .int r2), (5, .int (nI t)), (4, .int (nI i)), (3, .ref (ad' 12)), (2, .ref (ad' 4)), (1, .ref (ad' 0)), (0, .ref b)]) hx hb dL_law_825 hl (by decide) rfl (fun ls hl => ?_)
  refine lv_aload_n hx hb dL_law_827 rfl (lv_at hl 4 rfl) ?_
  refine va_calli (va_runV (As := []) (rest := []) ⟨hx, hb, hml, hown, hts⟩ (c_X3_thrown l G cy ad' n' k' n' k' v2 o' hn' hk' _ hI.2.2.1 hI.2.2.2.1) (cwV 0 hts gL_law_X3_thrown rfl rfl rfl (by decide +kernel) ⟨Nat.le_of_ble_eq_true rfl, Nat.le_of_ble_eq_true rfl⟩) (mP_V (r := (RX3, TX3, 11)) hN hE S_4 rfl) rfl rfl hl.1 rfl (lv_room (Nat.le_of_ble_eq_true rfl)) dL_law_828 ⟨by show _ ≤ 601024; omega, by show _ ≤ 7293034; omega⟩) hE.2.2.2 (fun q _ h => mE_A hE q h) (mE_A hE) (fun r3 uq tq H locs ht hvm hw hB hz1 hk1 hS => ?_)
  obtain ⟨rfl, rfl⟩ := hw
  have hE : mE G (lA s) s.heap ad' (Sy cy ad' n' k' v2 o') H locs := mE_call hE hB ht hS
  rw [e0]
  refine lv_iload hx hb dL_law_831 (lv_at hl 1 rfl) ?_
  refine mv_eq (tgt := 838) hx hb (by omega) (by omega) dL_law_833 (by decide) (fun c1 => ?_) (fun c1 => ?_)
  · skip
    refine lv_iload hx hb dL_law_838 (lv_at hl 1 rfl) ?_
    refine lv_if_ne (tgt := 855) hx hb dL_law_840 (by decide) (fun c2 => ?_) (fun c2 => ?_)
    · skip
      have c2 : ¬ t = 0 := fun h9 => c2 ((mz_eq (by omega)).mpr h9)
      refine lv_goto (tgt := 1316) hx hb dL_law_855 (by decide) ?_
      exact kk ad' n' k' v2 o' _ _ _ ⟨cs, hI⟩ hE (lv_sub hl [2, 3, 4, 5, 6] rfl)
    · skip
      have c2 := (mz_eq (by omega)).mp c2
      refine lv_aload_n hx hb dL_law_843 rfl (lv_at hl 3 rfl) ?_
      refine lv_iconst (v := nI 0) hx hb dL_law_844 (by decide) ?_
      refine mx_lald hx hb hN hE S_12 (j := 0) rfl (by decide) (by decide) dL_law_845 ?_
      refine lv_iload hx hb dL_law_846 (lv_at hl 0 rfl) ?_
      refine lv_i2l hx hb dL_law_848 rfl ?_
      rw [eo c2]
      refine W.lcmp hx hb dL_law_849 ?_
      rw [lg_same]
      refine lv_if_eq (tgt := 855) hx hb dL_law_850 (by decide) (fun c3 => ?_) (fun c3 => ?_)
      · skip
        refine lv_goto (tgt := 1316) hx hb dL_law_855 (by decide) ?_
        exact kk ad' n' k' v2 o' _ _ _ ⟨cs, hI⟩ hE (lv_sub hl [2, 3, 4, 5, 6] rfl)
      · skip
        exact absurd rfl c3
  · skip
    exact absurd rfl c1

set_option maxHeartbeats 4000000 in
set_option maxRecDepth 100000 in
/-- a step of the law: proves -/
theorem st_proves {p : Program} {l : Launch} {e : Env} {s : State} {m : MethodId} {below : List Frame} {meth : Method} {c : Code} {Q : State → Prop} {b L : Nat} {xs : Nat → Int32} (hx : p.tables.exec = Jvm.exec) (hb : c.code = cL_law) (hml : c.maxLocals = 9) (hown : s.vm.findClass RL = some m.cls) (hts : ∀ w ∈ wsL_law, w.before #[Value.ref b] s = true) (hX : va_X b L xs s s.heap) (hbl : b < s.heap.size) (hL : L ≤ 3584) {G : va_G} {cy : Nat → ClassId} (hN : mN G cy (lA s) s) {ad : Nat → Nat} {n k : Nat} {v : Nat → Nat → Int32} {o : Nat → Int64} {i : Nat} (hi : i + 7 ≤ L) {H : Heap} {locs : List Loc} {cells slots : Nat} (hcells : cells + 4 ≤ 601024) (hslots : slots + 60 ≤ 7293034) {ls : Array Slot} (hE : mE G (lA s) s.heap ad (Sy cy ad n k v o) H locs) (hl : lv_has ls 9 [(4, .int (nI i)), (3, .ref (ad 12)), (2, .ref (ad 4)), (1, .ref (ad 0)), (0, .ref b)]) {mc ms : Nat} (hmc : mc ≤ 4) (hms : ms ≤ 60) (hLc : mMi l yL_proves wsL_proves ({ frames := 10, cells := mc, slots := ms, locals := 220 }) G cy ad (Sy cy ad n k v o) H.size [.ref (ad 0), .int (xs (i + 1)), .int (xs (i + 2)), .int (xs (i + 3)), .ref (ad 12)] mc ms (fun (r : Int32) u => ∃ (t n' k' : Nat) (ad' : Nat → Nat) (v' : Nat → Nat → Int32) (o' : Nat → Int64), t ≤ 2 ∧ n' ≤ 6 ∧ k' ≤ 20 ∧ r = nI t ∧ u = (ad', Sy cy ad' n' k' v' o') ∧ ad' 0 = ad 0 ∧ ad' 4 = ad 4 ∧ ad' 12 = ad 12 ∧ ∀ sz' : Nat, mMi l yX3_proves wsX3_proves ({ frames := 10, cells := 0, slots := 0, locals := 220 }) G cy ad' (Sy cy ad' n' k' v' o') sz' [.ref (ad' 4), .int (xs (i + 1)), .int (xs (i + 2)), .int (xs (i + 3))] 0 0 (fun (r2 : Int32) u2 => ∃ v2 : Nat → Nat → Int32, u2 = (ad', Sy cy ad' n' k' v2 o') ∧ v2 4 0 = nI t ∧ (t = 0 → o' 0 = (if r2 = 0 then (0 : Int64) else 1)) ∧ ∃ cs, mInv n' k' v2 cs))) (kk : ∀ (ad' : Nat → Nat) (n' k' : Nat) (v2 : Nat → Nat → Int32) (o' : Nat → Int64) (H' : Heap) (locs' : List Loc) (ls' : Array Slot), (∃ cs, mInv n' k' v2 cs) → mE G (lA s) s.heap ad' (Sy cy ad' n' k' v2 o') H' locs' → lv_has ls' 9 [(4, .int (nI i)), (3, .ref (ad' 12)), (2, .ref (ad' 4)), (1, .ref (ad' 0)), (0, .ref b)] → W p l e room_1 s m #[Value.ref b] below meth c H' locs' (cells + mc) (slots + ms) Q (F0 m 1316 ls' [])) : W p l e room_1 s m #[Value.ref b] below meth c H locs cells slots Q (F0 m 858 ls []) := by
  refine lv_aload_n hx hb dL_law_858 rfl (lv_at hl 3 rfl) ?_
  refine lv_aload_n hx hb dL_law_859 rfl (lv_at hl 4 rfl) ?_
  refine lv_iload hx hb dL_law_860 (lv_at hl 0 rfl) ?_
  refine lv_iconst (v := nI 1) hx hb dL_law_862 (by decide) ?_
  refine mv_iadd (z := nI (i + 1)) hx hb (nI_add _ _) dL_law_863 ?_
  refine mx_sld hx hb hX hbl hE (j := i + 1) rfl (by omega) hL dL_law_864 ?_
  refine lv_aload_n hx hb dL_law_865 rfl (lv_at hl 4 rfl) ?_
  refine lv_iload hx hb dL_law_866 (lv_at hl 0 rfl) ?_
  refine lv_iconst (v := nI 2) hx hb dL_law_868 (by decide) ?_
  refine mv_iadd (z := nI (i + 2)) hx hb (nI_add _ _) dL_law_869 ?_
  refine mx_sld hx hb hX hbl hE (j := i + 2) rfl (by omega) hL dL_law_870 ?_
  refine lv_aload_n hx hb dL_law_871 rfl (lv_at hl 4 rfl) ?_
  refine lv_iload hx hb dL_law_872 (lv_at hl 0 rfl) ?_
  refine lv_iconst (v := nI 3) hx hb dL_law_874 (by decide) ?_
  refine mv_iadd (z := nI (i + 3)) hx hb (nI_add _ _) dL_law_875 ?_
  refine mx_sld hx hb hX hbl hE (j := i + 3) rfl (by omega) hL dL_law_876 ?_
  refine lv_aload_n hx hb dL_law_877 rfl (lv_at hl 1 rfl) ?_
  refine va_calli (vx_runSW (As := [.ref (ad 0), .int (xs (i + 1)), .int (xs (i + 2)), .int (xs (i + 3)), .ref (ad 12)]) (rest := []) ⟨hx, hb, hml, hown, hts⟩ hLc (vx_cwSW 5 hts gL_law_L_proves rfl rfl rfl (by decide +kernel) ⟨Nat.le_of_ble_eq_true rfl, Nat.le_of_ble_eq_true rfl⟩) (mP_S hN hE) rfl rfl hl.1 rfl (lv_room (Nat.le_of_ble_eq_true rfl)) dL_law_878 ⟨by show _ ≤ 601024; omega, by show _ ≤ 7293034; omega⟩) hE.2.2.2 (fun q _ h => mE_A hE q h) (mE_A hE) (fun r uq tq H locs ht hvm hw hB hz1 hk1 hS => ?_)
  obtain ⟨t, n', k', ad', v', o', ht2, hn', hk', rfl, rfl, ea0, ea4, ea12, hM⟩ := hw
  have hE : mE G (lA s) s.heap ad' (Sy cy ad' n' k' v' o') H locs := mE_call hE hB ht hS
  rw [← ea12, ← ea4, ← ea0] at hl
  refine lv_istore (lv' := [(5, .int (nI t)), (4, .int (nI i)), (3, .ref (ad' 12)), (2, .ref (ad' 4)), (1, .ref (ad' 0)), (0, .ref b)]) hx hb dL_law_881 hl (by decide) rfl (fun ls hl => ?_)
  refine lv_aload_n hx hb dL_law_883 rfl (lv_at hl 3 rfl) ?_
  refine lv_aload_n hx hb dL_law_884 rfl (lv_at hl 5 rfl) ?_
  refine lv_iload hx hb dL_law_885 (lv_at hl 1 rfl) ?_
  refine lv_iconst (v := nI 1) hx hb dL_law_887 (by decide) ?_
  refine mv_iadd (z := nI (i + 1)) hx hb (nI_add _ _) dL_law_888 ?_
  refine mx_sld hx hb hX hbl hE (j := i + 1) rfl (by omega) hL dL_law_889 ?_
  refine lv_aload_n hx hb dL_law_890 rfl (lv_at hl 5 rfl) ?_
  refine lv_iload hx hb dL_law_891 (lv_at hl 1 rfl) ?_
  refine lv_iconst (v := nI 2) hx hb dL_law_893 (by decide) ?_
  refine mv_iadd (z := nI (i + 2)) hx hb (nI_add _ _) dL_law_894 ?_
  refine mx_sld hx hb hX hbl hE (j := i + 2) rfl (by omega) hL dL_law_895 ?_
  refine lv_aload_n hx hb dL_law_896 rfl (lv_at hl 5 rfl) ?_
  refine lv_iload hx hb dL_law_897 (lv_at hl 1 rfl) ?_
  refine lv_iconst (v := nI 3) hx hb dL_law_899 (by decide) ?_
  refine mv_iadd (z := nI (i + 3)) hx hb (nI_add _ _) dL_law_900 ?_
  refine mx_sld hx hb hX hbl hE (j := i + 3) rfl (by omega) hL dL_law_901 ?_
  refine va_calli (va_runV (As := [.int (xs (i + 1)), .int (xs (i + 2)), .int (xs (i + 3))]) (rest := []) ⟨hx, hb, hml, hown, hts⟩ (hM H.size) (cwV 3 hts gL_law_X3_proves rfl rfl rfl (by decide +kernel) ⟨Nat.le_of_ble_eq_true rfl, Nat.le_of_ble_eq_true rfl⟩) (mP_V (r := (RX3, TX3, 11)) hN hE S_4 rfl) rfl rfl hl.1 rfl (lv_room (Nat.le_of_ble_eq_true rfl)) dL_law_902 ⟨by show _ ≤ 601024; omega, by show _ ≤ 7293034; omega⟩) hE.2.2.2 (fun q _ h => mE_A hE q h) (mE_A hE) (fun r2 uq tq H locs ht hvm hw hB hz1 hk1 hS => ?_)
  obtain ⟨v2, rfl, e0, eo, cs, hI⟩ := hw
  have hE : mE G (lA s) s.heap ad' (Sy cy ad' n' k' v2 o') H locs := mE_call hE hB ht hS
  refine lv_istore (lv' := [(6, .int r2), (5, .int (nI t)), (4, .int (nI i)), (3, .ref (ad' 12)), (2, .ref (ad' 4)), (1, .ref (ad' 0)), (0, .ref b)]) hx hb dL_law_905 hl (by decide) rfl (fun ls hl => ?_)
  refine lv_aload_n hx hb dL_law_907 rfl (lv_at hl 4 rfl) ?_
  refine va_calli (va_runV (As := []) (rest := []) ⟨hx, hb, hml, hown, hts⟩ (c_X3_thrown l G cy ad' n' k' n' k' v2 o' hn' hk' _ hI.2.2.1 hI.2.2.2.1) (cwV 0 hts gL_law_X3_thrown rfl rfl rfl (by decide +kernel) ⟨Nat.le_of_ble_eq_true rfl, Nat.le_of_ble_eq_true rfl⟩) (mP_V (r := (RX3, TX3, 11)) hN hE S_4 rfl) rfl rfl hl.1 rfl (lv_room (Nat.le_of_ble_eq_true rfl)) dL_law_908 ⟨by show _ ≤ 601024; omega, by show _ ≤ 7293034; omega⟩) hE.2.2.2 (fun q _ h => mE_A hE q h) (mE_A hE) (fun r3 uq tq H locs ht hvm hw hB hz1 hk1 hS => ?_)
  obtain ⟨rfl, rfl⟩ := hw
  have hE : mE G (lA s) s.heap ad' (Sy cy ad' n' k' v2 o') H locs := mE_call hE hB ht hS
  rw [e0]
  refine lv_iload hx hb dL_law_911 (lv_at hl 1 rfl) ?_
  refine mv_eq (tgt := 918) hx hb (by omega) (by omega) dL_law_913 (by decide) (fun c1 => ?_) (fun c1 => ?_)
  · skip
    refine lv_iload hx hb dL_law_918 (lv_at hl 1 rfl) ?_
    refine lv_if_ne (tgt := 942) hx hb dL_law_920 (by decide) (fun c2 => ?_) (fun c2 => ?_)
    · skip
      have c2 : ¬ t = 0 := fun h9 => c2 ((mz_eq (by omega)).mpr h9)
      refine lv_goto (tgt := 1316) hx hb dL_law_942 (by decide) ?_
      exact kk ad' n' k' v2 o' _ _ _ ⟨cs, hI⟩ hE (lv_sub hl [2, 3, 4, 5, 6] rfl)
    · skip
      have c2 := (mz_eq (by omega)).mp c2
      refine lv_aload_n hx hb dL_law_923 rfl (lv_at hl 3 rfl) ?_
      refine lv_iconst (v := nI 0) hx hb dL_law_924 (by decide) ?_
      refine mx_lald hx hb hN hE S_12 (j := 0) rfl (by decide) (by decide) dL_law_925 ?_
      refine lv_iload hx hb dL_law_926 (lv_at hl 0 rfl) ?_
      refine lv_if_eq (tgt := 935) hx hb dL_law_928 (by decide) (fun c3 => ?_) (fun c3 => ?_)
      · skip
        refine lv_lconst (v := 0) hx hb dL_law_935 (by decide) ?_
        rw [eo c2, if_pos c3]
        refine W.lcmp hx hb dL_law_936 ?_
        rw [lg_same]
        refine lv_if_eq (tgt := 942) hx hb dL_law_937 (by decide) (fun c4 => ?_) (fun c4 => ?_)
        · skip
          refine lv_goto (tgt := 1316) hx hb dL_law_942 (by decide) ?_
          exact kk ad' n' k' v2 o' _ _ _ ⟨cs, hI⟩ hE (lv_sub hl [2, 3, 4, 5, 6] rfl)
        · skip
          exact absurd rfl c4
      · skip
        refine lv_lconst (v := 1) hx hb dL_law_931 (by decide) ?_
        refine lv_goto (tgt := 936) hx hb dL_law_932 (by decide) ?_
        rw [eo c2, if_neg c3]
        refine W.lcmp hx hb dL_law_936 ?_
        rw [lg_same]
        refine lv_if_eq (tgt := 942) hx hb dL_law_937 (by decide) (fun c5 => ?_) (fun c5 => ?_)
        · skip
          refine lv_goto (tgt := 1316) hx hb dL_law_942 (by decide) ?_
          exact kk ad' n' k' v2 o' _ _ _ ⟨cs, hI⟩ hE (lv_sub hl [2, 3, 4, 5, 6] rfl)
        · skip
          exact absurd rfl c5
  · skip
    exact absurd rfl c1

set_option maxHeartbeats 4000000 in
set_option maxRecDepth 100000 in
/-- a step of the law: differ -/
theorem st_differ {p : Program} {l : Launch} {e : Env} {s : State} {m : MethodId} {below : List Frame} {meth : Method} {c : Code} {Q : State → Prop} {b L : Nat} {xs : Nat → Int32} (hx : p.tables.exec = Jvm.exec) (hb : c.code = cL_law) (hml : c.maxLocals = 9) (hown : s.vm.findClass RL = some m.cls) (hts : ∀ w ∈ wsL_law, w.before #[Value.ref b] s = true) (hX : va_X b L xs s s.heap) (hbl : b < s.heap.size) (hL : L ≤ 3584) {G : va_G} {cy : Nat → ClassId} (hN : mN G cy (lA s) s) {ad : Nat → Nat} {n k : Nat} {v : Nat → Nat → Int32} {o : Nat → Int64} {i : Nat} (hi : i + 7 ≤ L) {H : Heap} {locs : List Loc} {cells slots : Nat} (hcells : cells + 4 ≤ 601024) (hslots : slots + 60 ≤ 7293034) {ls : Array Slot} (hE : mE G (lA s) s.heap ad (Sy cy ad n k v o) H locs) (hl : lv_has ls 9 [(4, .int (nI i)), (3, .ref (ad 12)), (2, .ref (ad 4)), (1, .ref (ad 0)), (0, .ref b)]) {mc ms : Nat} (hmc : mc ≤ 4) (hms : ms ≤ 60) (hLc : mMi l yL_differ wsL_differ ({ frames := 11, cells := mc, slots := ms, locals := 260 }) G cy ad (Sy cy ad n k v o) H.size [.ref (ad 0), .int (xs (i + 1)), .int (xs (i + 2)), .ref (ad 12)] mc ms (fun (r : Int32) u => ∃ (t n' k' : Nat) (ad' : Nat → Nat) (v' : Nat → Nat → Int32) (o' : Nat → Int64), t ≤ 2 ∧ n' ≤ 6 ∧ k' ≤ 20 ∧ r = nI t ∧ u = (ad', Sy cy ad' n' k' v' o') ∧ ad' 0 = ad 0 ∧ ad' 4 = ad 4 ∧ ad' 12 = ad 12 ∧ ∀ sz' : Nat, mMi l yX3_differ wsX3_differ ({ frames := 13, cells := 0, slots := 0, locals := 340 }) G cy ad' (Sy cy ad' n' k' v' o') sz' [.ref (ad' 4), .int (xs (i + 1)), .int (xs (i + 2))] 0 0 (fun (r2 : Int32) u2 => ∃ v2 : Nat → Nat → Int32, u2 = (ad', Sy cy ad' n' k' v2 o') ∧ v2 4 0 = nI t ∧ (t = 0 → o' 0 = r2.toInt64) ∧ ∃ cs, mInv n' k' v2 cs))) (kk : ∀ (ad' : Nat → Nat) (n' k' : Nat) (v2 : Nat → Nat → Int32) (o' : Nat → Int64) (H' : Heap) (locs' : List Loc) (ls' : Array Slot), (∃ cs, mInv n' k' v2 cs) → mE G (lA s) s.heap ad' (Sy cy ad' n' k' v2 o') H' locs' → lv_has ls' 9 [(4, .int (nI i)), (3, .ref (ad' 12)), (2, .ref (ad' 4)), (1, .ref (ad' 0)), (0, .ref b)] → W p l e room_1 s m #[Value.ref b] below meth c H' locs' (cells + mc) (slots + ms) Q (F0 m 1316 ls' [])) : W p l e room_1 s m #[Value.ref b] below meth c H locs cells slots Q (F0 m 945 ls []) := by
  refine lv_aload_n hx hb dL_law_945 rfl (lv_at hl 3 rfl) ?_
  refine lv_aload_n hx hb dL_law_946 rfl (lv_at hl 4 rfl) ?_
  refine lv_iload hx hb dL_law_947 (lv_at hl 0 rfl) ?_
  refine lv_iconst (v := nI 1) hx hb dL_law_949 (by decide) ?_
  refine mv_iadd (z := nI (i + 1)) hx hb (nI_add _ _) dL_law_950 ?_
  refine mx_sld hx hb hX hbl hE (j := i + 1) rfl (by omega) hL dL_law_951 ?_
  refine lv_aload_n hx hb dL_law_952 rfl (lv_at hl 4 rfl) ?_
  refine lv_iload hx hb dL_law_953 (lv_at hl 0 rfl) ?_
  refine lv_iconst (v := nI 2) hx hb dL_law_955 (by decide) ?_
  refine mv_iadd (z := nI (i + 2)) hx hb (nI_add _ _) dL_law_956 ?_
  refine mx_sld hx hb hX hbl hE (j := i + 2) rfl (by omega) hL dL_law_957 ?_
  refine lv_aload_n hx hb dL_law_958 rfl (lv_at hl 1 rfl) ?_
  refine va_calli (vx_runSW (As := [.ref (ad 0), .int (xs (i + 1)), .int (xs (i + 2)), .ref (ad 12)]) (rest := []) ⟨hx, hb, hml, hown, hts⟩ hLc (vx_cwSW 4 hts gL_law_L_differ rfl rfl rfl (by decide +kernel) ⟨Nat.le_of_ble_eq_true rfl, Nat.le_of_ble_eq_true rfl⟩) (mP_S hN hE) rfl rfl hl.1 rfl (lv_room (Nat.le_of_ble_eq_true rfl)) dL_law_959 ⟨by show _ ≤ 601024; omega, by show _ ≤ 7293034; omega⟩) hE.2.2.2 (fun q _ h => mE_A hE q h) (mE_A hE) (fun r uq tq H locs ht hvm hw hB hz1 hk1 hS => ?_)
  obtain ⟨t, n', k', ad', v', o', ht2, hn', hk', rfl, rfl, ea0, ea4, ea12, hM⟩ := hw
  have hE : mE G (lA s) s.heap ad' (Sy cy ad' n' k' v' o') H locs := mE_call hE hB ht hS
  rw [← ea12, ← ea4, ← ea0] at hl
  refine lv_istore (lv' := [(5, .int (nI t)), (4, .int (nI i)), (3, .ref (ad' 12)), (2, .ref (ad' 4)), (1, .ref (ad' 0)), (0, .ref b)]) hx hb dL_law_962 hl (by decide) rfl (fun ls hl => ?_)
  refine lv_aload_n hx hb dL_law_964 rfl (lv_at hl 3 rfl) ?_
  refine lv_aload_n hx hb dL_law_965 rfl (lv_at hl 5 rfl) ?_
  refine lv_iload hx hb dL_law_966 (lv_at hl 1 rfl) ?_
  refine lv_iconst (v := nI 1) hx hb dL_law_968 (by decide) ?_
  refine mv_iadd (z := nI (i + 1)) hx hb (nI_add _ _) dL_law_969 ?_
  refine mx_sld hx hb hX hbl hE (j := i + 1) rfl (by omega) hL dL_law_970 ?_
  refine lv_aload_n hx hb dL_law_971 rfl (lv_at hl 5 rfl) ?_
  refine lv_iload hx hb dL_law_972 (lv_at hl 1 rfl) ?_
  refine lv_iconst (v := nI 2) hx hb dL_law_974 (by decide) ?_
  refine mv_iadd (z := nI (i + 2)) hx hb (nI_add _ _) dL_law_975 ?_
  refine mx_sld hx hb hX hbl hE (j := i + 2) rfl (by omega) hL dL_law_976 ?_
  refine va_calli (va_runV (As := [.int (xs (i + 1)), .int (xs (i + 2))]) (rest := []) ⟨hx, hb, hml, hown, hts⟩ (hM H.size) (cwV 2 hts gL_law_X3_differ rfl rfl rfl (by decide +kernel) ⟨Nat.le_of_ble_eq_true rfl, Nat.le_of_ble_eq_true rfl⟩) (mP_V (r := (RX3, TX3, 11)) hN hE S_4 rfl) rfl rfl hl.1 rfl (lv_room (Nat.le_of_ble_eq_true rfl)) dL_law_977 ⟨by show _ ≤ 601024; omega, by show _ ≤ 7293034; omega⟩) hE.2.2.2 (fun q _ h => mE_A hE q h) (mE_A hE) (fun r2 uq tq H locs ht hvm hw hB hz1 hk1 hS => ?_)
  obtain ⟨v2, rfl, e0, eo, cs, hI⟩ := hw
  have hE : mE G (lA s) s.heap ad' (Sy cy ad' n' k' v2 o') H locs := mE_call hE hB ht hS
  refine lv_istore (lv' := [(6, .int r2), (5, .int (nI t)), (4, .int (nI i)), (3, .ref (ad' 12)), (2, .ref (ad' 4)), (1, .ref (ad' 0)), (0, .ref b)]) hx hb dL_law_980 hl (by decide) rfl (fun ls hl => ?_)
  refine lv_aload_n hx hb dL_law_982 rfl (lv_at hl 4 rfl) ?_
  refine va_calli (va_runV (As := []) (rest := []) ⟨hx, hb, hml, hown, hts⟩ (c_X3_thrown l G cy ad' n' k' n' k' v2 o' hn' hk' _ hI.2.2.1 hI.2.2.2.1) (cwV 0 hts gL_law_X3_thrown rfl rfl rfl (by decide +kernel) ⟨Nat.le_of_ble_eq_true rfl, Nat.le_of_ble_eq_true rfl⟩) (mP_V (r := (RX3, TX3, 11)) hN hE S_4 rfl) rfl rfl hl.1 rfl (lv_room (Nat.le_of_ble_eq_true rfl)) dL_law_983 ⟨by show _ ≤ 601024; omega, by show _ ≤ 7293034; omega⟩) hE.2.2.2 (fun q _ h => mE_A hE q h) (mE_A hE) (fun r3 uq tq H locs ht hvm hw hB hz1 hk1 hS => ?_)
  obtain ⟨rfl, rfl⟩ := hw
  have hE : mE G (lA s) s.heap ad' (Sy cy ad' n' k' v2 o') H locs := mE_call hE hB ht hS
  rw [e0]
  refine lv_iload hx hb dL_law_986 (lv_at hl 1 rfl) ?_
  refine mv_eq (tgt := 993) hx hb (by omega) (by omega) dL_law_988 (by decide) (fun c1 => ?_) (fun c1 => ?_)
  · skip
    refine lv_iload hx hb dL_law_993 (lv_at hl 1 rfl) ?_
    refine lv_if_ne (tgt := 1010) hx hb dL_law_995 (by decide) (fun c2 => ?_) (fun c2 => ?_)
    · skip
      have c2 : ¬ t = 0 := fun h9 => c2 ((mz_eq (by omega)).mpr h9)
      refine lv_goto (tgt := 1316) hx hb dL_law_1010 (by decide) ?_
      exact kk ad' n' k' v2 o' _ _ _ ⟨cs, hI⟩ hE (lv_sub hl [2, 3, 4, 5, 6] rfl)
    · skip
      have c2 := (mz_eq (by omega)).mp c2
      refine lv_aload_n hx hb dL_law_998 rfl (lv_at hl 3 rfl) ?_
      refine lv_iconst (v := nI 0) hx hb dL_law_999 (by decide) ?_
      refine mx_lald hx hb hN hE S_12 (j := 0) rfl (by decide) (by decide) dL_law_1000 ?_
      refine lv_iload hx hb dL_law_1001 (lv_at hl 0 rfl) ?_
      refine lv_i2l hx hb dL_law_1003 rfl ?_
      rw [eo c2]
      refine W.lcmp hx hb dL_law_1004 ?_
      rw [lg_same]
      refine lv_if_eq (tgt := 1010) hx hb dL_law_1005 (by decide) (fun c3 => ?_) (fun c3 => ?_)
      · skip
        refine lv_goto (tgt := 1316) hx hb dL_law_1010 (by decide) ?_
        exact kk ad' n' k' v2 o' _ _ _ ⟨cs, hI⟩ hE (lv_sub hl [2, 3, 4, 5, 6] rfl)
      · skip
        exact absurd rfl c3
  · skip
    exact absurd rfl c1

set_option maxHeartbeats 4000000 in
set_option maxRecDepth 100000 in
/-- a step of the law: looks -/
theorem st_looks {p : Program} {l : Launch} {e : Env} {s : State} {m : MethodId} {below : List Frame} {meth : Method} {c : Code} {Q : State → Prop} {b L : Nat} {xs : Nat → Int32} (hx : p.tables.exec = Jvm.exec) (hb : c.code = cL_law) (hml : c.maxLocals = 9) (hown : s.vm.findClass RL = some m.cls) (hts : ∀ w ∈ wsL_law, w.before #[Value.ref b] s = true) (hX : va_X b L xs s s.heap) (hbl : b < s.heap.size) (hL : L ≤ 3584) {G : va_G} {cy : Nat → ClassId} (hN : mN G cy (lA s) s) {ad : Nat → Nat} {n k : Nat} {v : Nat → Nat → Int32} {o : Nat → Int64} {i : Nat} (hi : i + 7 ≤ L) {H : Heap} {locs : List Loc} {cells slots : Nat} (hcells : cells + 4 ≤ 601024) (hslots : slots + 60 ≤ 7293034) {ls : Array Slot} (hE : mE G (lA s) s.heap ad (Sy cy ad n k v o) H locs) (hl : lv_has ls 9 [(4, .int (nI i)), (3, .ref (ad 12)), (2, .ref (ad 4)), (1, .ref (ad 0)), (0, .ref b)]) {mc ms : Nat} (hmc : mc ≤ 4) (hms : ms ≤ 60) (hLc : mMi l yL_looks wsL_looks ({ frames := 10, cells := mc, slots := ms, locals := 220 }) G cy ad (Sy cy ad n k v o) H.size [.ref (ad 0), .int (xs (i + 1)), .int (xs (i + 2)), .ref (ad 12)] mc ms (fun (r : Int32) u => ∃ (t n' k' : Nat) (ad' : Nat → Nat) (v' : Nat → Nat → Int32) (o' : Nat → Int64), t ≤ 2 ∧ n' ≤ 6 ∧ k' ≤ 20 ∧ r = nI t ∧ u = (ad', Sy cy ad' n' k' v' o') ∧ ad' 0 = ad 0 ∧ ad' 4 = ad 4 ∧ ad' 12 = ad 12 ∧ ∀ sz' : Nat, mMi l yX3_looks wsX3_looks ({ frames := 13, cells := 0, slots := 0, locals := 340 }) G cy ad' (Sy cy ad' n' k' v' o') sz' [.ref (ad' 4), .int (xs (i + 1)), .int (xs (i + 2))] 0 0 (fun (r2 : Int32) u2 => ∃ v2 : Nat → Nat → Int32, u2 = (ad', Sy cy ad' n' k' v2 o') ∧ v2 4 0 = nI t ∧ (t = 0 → o' 0 = r2.toInt64) ∧ ∃ cs, mInv n' k' v2 cs))) (kk : ∀ (ad' : Nat → Nat) (n' k' : Nat) (v2 : Nat → Nat → Int32) (o' : Nat → Int64) (H' : Heap) (locs' : List Loc) (ls' : Array Slot), (∃ cs, mInv n' k' v2 cs) → mE G (lA s) s.heap ad' (Sy cy ad' n' k' v2 o') H' locs' → lv_has ls' 9 [(4, .int (nI i)), (3, .ref (ad' 12)), (2, .ref (ad' 4)), (1, .ref (ad' 0)), (0, .ref b)] → W p l e room_1 s m #[Value.ref b] below meth c H' locs' (cells + mc) (slots + ms) Q (F0 m 1316 ls' [])) : W p l e room_1 s m #[Value.ref b] below meth c H locs cells slots Q (F0 m 1013 ls []) := by
  refine lv_aload_n hx hb dL_law_1013 rfl (lv_at hl 3 rfl) ?_
  refine lv_aload_n hx hb dL_law_1014 rfl (lv_at hl 4 rfl) ?_
  refine lv_iload hx hb dL_law_1015 (lv_at hl 0 rfl) ?_
  refine lv_iconst (v := nI 1) hx hb dL_law_1017 (by decide) ?_
  refine mv_iadd (z := nI (i + 1)) hx hb (nI_add _ _) dL_law_1018 ?_
  refine mx_sld hx hb hX hbl hE (j := i + 1) rfl (by omega) hL dL_law_1019 ?_
  refine lv_aload_n hx hb dL_law_1020 rfl (lv_at hl 4 rfl) ?_
  refine lv_iload hx hb dL_law_1021 (lv_at hl 0 rfl) ?_
  refine lv_iconst (v := nI 2) hx hb dL_law_1023 (by decide) ?_
  refine mv_iadd (z := nI (i + 2)) hx hb (nI_add _ _) dL_law_1024 ?_
  refine mx_sld hx hb hX hbl hE (j := i + 2) rfl (by omega) hL dL_law_1025 ?_
  refine lv_aload_n hx hb dL_law_1026 rfl (lv_at hl 1 rfl) ?_
  refine va_calli (vx_runSW (As := [.ref (ad 0), .int (xs (i + 1)), .int (xs (i + 2)), .ref (ad 12)]) (rest := []) ⟨hx, hb, hml, hown, hts⟩ hLc (vx_cwSW 4 hts gL_law_L_looks rfl rfl rfl (by decide +kernel) ⟨Nat.le_of_ble_eq_true rfl, Nat.le_of_ble_eq_true rfl⟩) (mP_S hN hE) rfl rfl hl.1 rfl (lv_room (Nat.le_of_ble_eq_true rfl)) dL_law_1027 ⟨by show _ ≤ 601024; omega, by show _ ≤ 7293034; omega⟩) hE.2.2.2 (fun q _ h => mE_A hE q h) (mE_A hE) (fun r uq tq H locs ht hvm hw hB hz1 hk1 hS => ?_)
  obtain ⟨t, n', k', ad', v', o', ht2, hn', hk', rfl, rfl, ea0, ea4, ea12, hM⟩ := hw
  have hE : mE G (lA s) s.heap ad' (Sy cy ad' n' k' v' o') H locs := mE_call hE hB ht hS
  rw [← ea12, ← ea4, ← ea0] at hl
  refine lv_istore (lv' := [(5, .int (nI t)), (4, .int (nI i)), (3, .ref (ad' 12)), (2, .ref (ad' 4)), (1, .ref (ad' 0)), (0, .ref b)]) hx hb dL_law_1030 hl (by decide) rfl (fun ls hl => ?_)
  refine lv_aload_n hx hb dL_law_1032 rfl (lv_at hl 3 rfl) ?_
  refine lv_aload_n hx hb dL_law_1033 rfl (lv_at hl 5 rfl) ?_
  refine lv_iload hx hb dL_law_1034 (lv_at hl 1 rfl) ?_
  refine lv_iconst (v := nI 1) hx hb dL_law_1036 (by decide) ?_
  refine mv_iadd (z := nI (i + 1)) hx hb (nI_add _ _) dL_law_1037 ?_
  refine mx_sld hx hb hX hbl hE (j := i + 1) rfl (by omega) hL dL_law_1038 ?_
  refine lv_aload_n hx hb dL_law_1039 rfl (lv_at hl 5 rfl) ?_
  refine lv_iload hx hb dL_law_1040 (lv_at hl 1 rfl) ?_
  refine lv_iconst (v := nI 2) hx hb dL_law_1042 (by decide) ?_
  refine mv_iadd (z := nI (i + 2)) hx hb (nI_add _ _) dL_law_1043 ?_
  refine mx_sld hx hb hX hbl hE (j := i + 2) rfl (by omega) hL dL_law_1044 ?_
  refine va_calli (va_runV (As := [.int (xs (i + 1)), .int (xs (i + 2))]) (rest := []) ⟨hx, hb, hml, hown, hts⟩ (hM H.size) (cwV 2 hts gL_law_X3_looks rfl rfl rfl (by decide +kernel) ⟨Nat.le_of_ble_eq_true rfl, Nat.le_of_ble_eq_true rfl⟩) (mP_V (r := (RX3, TX3, 11)) hN hE S_4 rfl) rfl rfl hl.1 rfl (lv_room (Nat.le_of_ble_eq_true rfl)) dL_law_1045 ⟨by show _ ≤ 601024; omega, by show _ ≤ 7293034; omega⟩) hE.2.2.2 (fun q _ h => mE_A hE q h) (mE_A hE) (fun r2 uq tq H locs ht hvm hw hB hz1 hk1 hS => ?_)
  obtain ⟨v2, rfl, e0, eo, cs, hI⟩ := hw
  have hE : mE G (lA s) s.heap ad' (Sy cy ad' n' k' v2 o') H locs := mE_call hE hB ht hS
  refine lv_istore (lv' := [(6, .int r2), (5, .int (nI t)), (4, .int (nI i)), (3, .ref (ad' 12)), (2, .ref (ad' 4)), (1, .ref (ad' 0)), (0, .ref b)]) hx hb dL_law_1048 hl (by decide) rfl (fun ls hl => ?_)
  refine lv_aload_n hx hb dL_law_1050 rfl (lv_at hl 4 rfl) ?_
  refine va_calli (va_runV (As := []) (rest := []) ⟨hx, hb, hml, hown, hts⟩ (c_X3_thrown l G cy ad' n' k' n' k' v2 o' hn' hk' _ hI.2.2.1 hI.2.2.2.1) (cwV 0 hts gL_law_X3_thrown rfl rfl rfl (by decide +kernel) ⟨Nat.le_of_ble_eq_true rfl, Nat.le_of_ble_eq_true rfl⟩) (mP_V (r := (RX3, TX3, 11)) hN hE S_4 rfl) rfl rfl hl.1 rfl (lv_room (Nat.le_of_ble_eq_true rfl)) dL_law_1051 ⟨by show _ ≤ 601024; omega, by show _ ≤ 7293034; omega⟩) hE.2.2.2 (fun q _ h => mE_A hE q h) (mE_A hE) (fun r3 uq tq H locs ht hvm hw hB hz1 hk1 hS => ?_)
  obtain ⟨rfl, rfl⟩ := hw
  have hE : mE G (lA s) s.heap ad' (Sy cy ad' n' k' v2 o') H locs := mE_call hE hB ht hS
  rw [e0]
  refine lv_iload hx hb dL_law_1054 (lv_at hl 1 rfl) ?_
  refine mv_eq (tgt := 1061) hx hb (by omega) (by omega) dL_law_1056 (by decide) (fun c1 => ?_) (fun c1 => ?_)
  · skip
    refine lv_iload hx hb dL_law_1061 (lv_at hl 1 rfl) ?_
    refine lv_if_ne (tgt := 1078) hx hb dL_law_1063 (by decide) (fun c2 => ?_) (fun c2 => ?_)
    · skip
      have c2 : ¬ t = 0 := fun h9 => c2 ((mz_eq (by omega)).mpr h9)
      refine lv_goto (tgt := 1316) hx hb dL_law_1078 (by decide) ?_
      exact kk ad' n' k' v2 o' _ _ _ ⟨cs, hI⟩ hE (lv_sub hl [2, 3, 4, 5, 6] rfl)
    · skip
      have c2 := (mz_eq (by omega)).mp c2
      refine lv_aload_n hx hb dL_law_1066 rfl (lv_at hl 3 rfl) ?_
      refine lv_iconst (v := nI 0) hx hb dL_law_1067 (by decide) ?_
      refine mx_lald hx hb hN hE S_12 (j := 0) rfl (by decide) (by decide) dL_law_1068 ?_
      refine lv_iload hx hb dL_law_1069 (lv_at hl 0 rfl) ?_
      refine lv_i2l hx hb dL_law_1071 rfl ?_
      rw [eo c2]
      refine W.lcmp hx hb dL_law_1072 ?_
      rw [lg_same]
      refine lv_if_eq (tgt := 1078) hx hb dL_law_1073 (by decide) (fun c3 => ?_) (fun c3 => ?_)
      · skip
        refine lv_goto (tgt := 1316) hx hb dL_law_1078 (by decide) ?_
        exact kk ad' n' k' v2 o' _ _ _ ⟨cs, hI⟩ hE (lv_sub hl [2, 3, 4, 5, 6] rfl)
      · skip
        exact absurd rfl c3
  · skip
    exact absurd rfl c1

set_option maxHeartbeats 4000000 in
set_option maxRecDepth 100000 in
/-- a step of the law: mend -/
theorem st_mend {p : Program} {l : Launch} {e : Env} {s : State} {m : MethodId} {below : List Frame} {meth : Method} {c : Code} {Q : State → Prop} {b L : Nat} {xs : Nat → Int32} (hx : p.tables.exec = Jvm.exec) (hb : c.code = cL_law) (hml : c.maxLocals = 9) (hown : s.vm.findClass RL = some m.cls) (hts : ∀ w ∈ wsL_law, w.before #[Value.ref b] s = true) (hX : va_X b L xs s s.heap) (hbl : b < s.heap.size) (hL : L ≤ 3584) {G : va_G} {cy : Nat → ClassId} (hN : mN G cy (lA s) s) {ad : Nat → Nat} {n k : Nat} {v : Nat → Nat → Int32} {o : Nat → Int64} {i : Nat} (hi : i + 7 ≤ L) {H : Heap} {locs : List Loc} {cells slots : Nat} (hcells : cells + 4 ≤ 601024) (hslots : slots + 60 ≤ 7293034) {ls : Array Slot} (hE : mE G (lA s) s.heap ad (Sy cy ad n k v o) H locs) (hl : lv_has ls 9 [(4, .int (nI i)), (3, .ref (ad 12)), (2, .ref (ad 4)), (1, .ref (ad 0)), (0, .ref b)]) {mc ms : Nat} (hmc : mc ≤ 4) (hms : ms ≤ 60) (hLc : mMi l yL_mend wsL_mend ({ frames := 11, cells := mc, slots := ms, locals := 260 }) G cy ad (Sy cy ad n k v o) H.size [.ref (ad 0), .int (xs (i + 1)), .int (xs (i + 2)), .ref (ad 12)] mc ms (fun (r : Int32) u => ∃ (t n' k' : Nat) (ad' : Nat → Nat) (v' : Nat → Nat → Int32) (o' : Nat → Int64), t ≤ 2 ∧ n' ≤ 6 ∧ k' ≤ 20 ∧ r = nI t ∧ u = (ad', Sy cy ad' n' k' v' o') ∧ ad' 0 = ad 0 ∧ ad' 4 = ad 4 ∧ ad' 12 = ad 12 ∧ ∀ sz' : Nat, mMi l yX3_mend wsX3_mend ({ frames := 13, cells := 0, slots := 0, locals := 340 }) G cy ad' (Sy cy ad' n' k' v' o') sz' [.ref (ad' 4), .int (xs (i + 1)), .int (xs (i + 2))] 0 0 (fun (r2 : Int32) u2 => ∃ v2 : Nat → Nat → Int32, u2 = (ad', Sy cy ad' n' k' v2 o') ∧ v2 4 0 = nI t ∧ (t = 0 → o' 0 = r2.toInt64) ∧ ∃ cs, mInv n' k' v2 cs))) (kk : ∀ (ad' : Nat → Nat) (n' k' : Nat) (v2 : Nat → Nat → Int32) (o' : Nat → Int64) (H' : Heap) (locs' : List Loc) (ls' : Array Slot), (∃ cs, mInv n' k' v2 cs) → mE G (lA s) s.heap ad' (Sy cy ad' n' k' v2 o') H' locs' → lv_has ls' 9 [(4, .int (nI i)), (3, .ref (ad' 12)), (2, .ref (ad' 4)), (1, .ref (ad' 0)), (0, .ref b)] → W p l e room_1 s m #[Value.ref b] below meth c H' locs' (cells + mc) (slots + ms) Q (F0 m 1316 ls' [])) : W p l e room_1 s m #[Value.ref b] below meth c H locs cells slots Q (F0 m 1081 ls []) := by
  refine lv_aload_n hx hb dL_law_1081 rfl (lv_at hl 3 rfl) ?_
  refine lv_aload_n hx hb dL_law_1082 rfl (lv_at hl 4 rfl) ?_
  refine lv_iload hx hb dL_law_1083 (lv_at hl 0 rfl) ?_
  refine lv_iconst (v := nI 1) hx hb dL_law_1085 (by decide) ?_
  refine mv_iadd (z := nI (i + 1)) hx hb (nI_add _ _) dL_law_1086 ?_
  refine mx_sld hx hb hX hbl hE (j := i + 1) rfl (by omega) hL dL_law_1087 ?_
  refine lv_aload_n hx hb dL_law_1088 rfl (lv_at hl 4 rfl) ?_
  refine lv_iload hx hb dL_law_1089 (lv_at hl 0 rfl) ?_
  refine lv_iconst (v := nI 2) hx hb dL_law_1091 (by decide) ?_
  refine mv_iadd (z := nI (i + 2)) hx hb (nI_add _ _) dL_law_1092 ?_
  refine mx_sld hx hb hX hbl hE (j := i + 2) rfl (by omega) hL dL_law_1093 ?_
  refine lv_aload_n hx hb dL_law_1094 rfl (lv_at hl 1 rfl) ?_
  refine va_calli (vx_runSW (As := [.ref (ad 0), .int (xs (i + 1)), .int (xs (i + 2)), .ref (ad 12)]) (rest := []) ⟨hx, hb, hml, hown, hts⟩ hLc (vx_cwSW 4 hts gL_law_L_mend rfl rfl rfl (by decide +kernel) ⟨Nat.le_of_ble_eq_true rfl, Nat.le_of_ble_eq_true rfl⟩) (mP_S hN hE) rfl rfl hl.1 rfl (lv_room (Nat.le_of_ble_eq_true rfl)) dL_law_1095 ⟨by show _ ≤ 601024; omega, by show _ ≤ 7293034; omega⟩) hE.2.2.2 (fun q _ h => mE_A hE q h) (mE_A hE) (fun r uq tq H locs ht hvm hw hB hz1 hk1 hS => ?_)
  obtain ⟨t, n', k', ad', v', o', ht2, hn', hk', rfl, rfl, ea0, ea4, ea12, hM⟩ := hw
  have hE : mE G (lA s) s.heap ad' (Sy cy ad' n' k' v' o') H locs := mE_call hE hB ht hS
  rw [← ea12, ← ea4, ← ea0] at hl
  refine lv_istore (lv' := [(5, .int (nI t)), (4, .int (nI i)), (3, .ref (ad' 12)), (2, .ref (ad' 4)), (1, .ref (ad' 0)), (0, .ref b)]) hx hb dL_law_1098 hl (by decide) rfl (fun ls hl => ?_)
  refine lv_aload_n hx hb dL_law_1100 rfl (lv_at hl 3 rfl) ?_
  refine lv_aload_n hx hb dL_law_1101 rfl (lv_at hl 5 rfl) ?_
  refine lv_iload hx hb dL_law_1102 (lv_at hl 1 rfl) ?_
  refine lv_iconst (v := nI 1) hx hb dL_law_1104 (by decide) ?_
  refine mv_iadd (z := nI (i + 1)) hx hb (nI_add _ _) dL_law_1105 ?_
  refine mx_sld hx hb hX hbl hE (j := i + 1) rfl (by omega) hL dL_law_1106 ?_
  refine lv_aload_n hx hb dL_law_1107 rfl (lv_at hl 5 rfl) ?_
  refine lv_iload hx hb dL_law_1108 (lv_at hl 1 rfl) ?_
  refine lv_iconst (v := nI 2) hx hb dL_law_1110 (by decide) ?_
  refine mv_iadd (z := nI (i + 2)) hx hb (nI_add _ _) dL_law_1111 ?_
  refine mx_sld hx hb hX hbl hE (j := i + 2) rfl (by omega) hL dL_law_1112 ?_
  refine va_calli (va_runV (As := [.int (xs (i + 1)), .int (xs (i + 2))]) (rest := []) ⟨hx, hb, hml, hown, hts⟩ (hM H.size) (cwV 2 hts gL_law_X3_mend rfl rfl rfl (by decide +kernel) ⟨Nat.le_of_ble_eq_true rfl, Nat.le_of_ble_eq_true rfl⟩) (mP_V (r := (RX3, TX3, 11)) hN hE S_4 rfl) rfl rfl hl.1 rfl (lv_room (Nat.le_of_ble_eq_true rfl)) dL_law_1113 ⟨by show _ ≤ 601024; omega, by show _ ≤ 7293034; omega⟩) hE.2.2.2 (fun q _ h => mE_A hE q h) (mE_A hE) (fun r2 uq tq H locs ht hvm hw hB hz1 hk1 hS => ?_)
  obtain ⟨v2, rfl, e0, eo, cs, hI⟩ := hw
  have hE : mE G (lA s) s.heap ad' (Sy cy ad' n' k' v2 o') H locs := mE_call hE hB ht hS
  refine lv_istore (lv' := [(6, .int r2), (5, .int (nI t)), (4, .int (nI i)), (3, .ref (ad' 12)), (2, .ref (ad' 4)), (1, .ref (ad' 0)), (0, .ref b)]) hx hb dL_law_1116 hl (by decide) rfl (fun ls hl => ?_)
  refine lv_aload_n hx hb dL_law_1118 rfl (lv_at hl 4 rfl) ?_
  refine va_calli (va_runV (As := []) (rest := []) ⟨hx, hb, hml, hown, hts⟩ (c_X3_thrown l G cy ad' n' k' n' k' v2 o' hn' hk' _ hI.2.2.1 hI.2.2.2.1) (cwV 0 hts gL_law_X3_thrown rfl rfl rfl (by decide +kernel) ⟨Nat.le_of_ble_eq_true rfl, Nat.le_of_ble_eq_true rfl⟩) (mP_V (r := (RX3, TX3, 11)) hN hE S_4 rfl) rfl rfl hl.1 rfl (lv_room (Nat.le_of_ble_eq_true rfl)) dL_law_1119 ⟨by show _ ≤ 601024; omega, by show _ ≤ 7293034; omega⟩) hE.2.2.2 (fun q _ h => mE_A hE q h) (mE_A hE) (fun r3 uq tq H locs ht hvm hw hB hz1 hk1 hS => ?_)
  obtain ⟨rfl, rfl⟩ := hw
  have hE : mE G (lA s) s.heap ad' (Sy cy ad' n' k' v2 o') H locs := mE_call hE hB ht hS
  rw [e0]
  refine lv_iload hx hb dL_law_1122 (lv_at hl 1 rfl) ?_
  refine mv_eq (tgt := 1129) hx hb (by omega) (by omega) dL_law_1124 (by decide) (fun c1 => ?_) (fun c1 => ?_)
  · skip
    refine lv_iload hx hb dL_law_1129 (lv_at hl 1 rfl) ?_
    refine lv_if_ne (tgt := 1146) hx hb dL_law_1131 (by decide) (fun c2 => ?_) (fun c2 => ?_)
    · skip
      have c2 : ¬ t = 0 := fun h9 => c2 ((mz_eq (by omega)).mpr h9)
      refine lv_goto (tgt := 1316) hx hb dL_law_1146 (by decide) ?_
      exact kk ad' n' k' v2 o' _ _ _ ⟨cs, hI⟩ hE (lv_sub hl [2, 3, 4, 5, 6] rfl)
    · skip
      have c2 := (mz_eq (by omega)).mp c2
      refine lv_aload_n hx hb dL_law_1134 rfl (lv_at hl 3 rfl) ?_
      refine lv_iconst (v := nI 0) hx hb dL_law_1135 (by decide) ?_
      refine mx_lald hx hb hN hE S_12 (j := 0) rfl (by decide) (by decide) dL_law_1136 ?_
      refine lv_iload hx hb dL_law_1137 (lv_at hl 0 rfl) ?_
      refine lv_i2l hx hb dL_law_1139 rfl ?_
      rw [eo c2]
      refine W.lcmp hx hb dL_law_1140 ?_
      rw [lg_same]
      refine lv_if_eq (tgt := 1146) hx hb dL_law_1141 (by decide) (fun c3 => ?_) (fun c3 => ?_)
      · skip
        refine lv_goto (tgt := 1316) hx hb dL_law_1146 (by decide) ?_
        exact kk ad' n' k' v2 o' _ _ _ ⟨cs, hI⟩ hE (lv_sub hl [2, 3, 4, 5, 6] rfl)
      · skip
        exact absurd rfl c3
  · skip
    exact absurd rfl c1

set_option maxHeartbeats 4000000 in
set_option maxRecDepth 100000 in
/-- a step of the law: swapped -/
theorem st_swapped {p : Program} {l : Launch} {e : Env} {s : State} {m : MethodId} {below : List Frame} {meth : Method} {c : Code} {Q : State → Prop} {b L : Nat} {xs : Nat → Int32} (hx : p.tables.exec = Jvm.exec) (hb : c.code = cL_law) (hml : c.maxLocals = 9) (hown : s.vm.findClass RL = some m.cls) (hts : ∀ w ∈ wsL_law, w.before #[Value.ref b] s = true) (hX : va_X b L xs s s.heap) (hbl : b < s.heap.size) (hL : L ≤ 3584) {G : va_G} {cy : Nat → ClassId} (hN : mN G cy (lA s) s) {ad : Nat → Nat} {n k : Nat} {v : Nat → Nat → Int32} {o : Nat → Int64} {i : Nat} (hi : i + 7 ≤ L) {H : Heap} {locs : List Loc} {cells slots : Nat} (hcells : cells + 4 ≤ 601024) (hslots : slots + 60 ≤ 7293034) {ls : Array Slot} (hE : mE G (lA s) s.heap ad (Sy cy ad n k v o) H locs) (hl : lv_has ls 9 [(4, .int (nI i)), (3, .ref (ad 12)), (2, .ref (ad 4)), (1, .ref (ad 0)), (0, .ref b)]) {mc ms : Nat} (hmc : mc ≤ 4) (hms : ms ≤ 60) (hLc : mMi l yL_swapped wsL_swapped ({ frames := 11, cells := mc, slots := ms, locals := 260 }) G cy ad (Sy cy ad n k v o) H.size [.ref (ad 0), .int (xs (i + 1)), .ref (ad 12)] mc ms (fun (r : Int32) u => ∃ (t n' k' : Nat) (ad' : Nat → Nat) (v' : Nat → Nat → Int32) (o' : Nat → Int64), t ≤ 2 ∧ n' ≤ 6 ∧ k' ≤ 20 ∧ r = nI t ∧ u = (ad', Sy cy ad' n' k' v' o') ∧ ad' 0 = ad 0 ∧ ad' 4 = ad 4 ∧ ad' 12 = ad 12 ∧ ∀ sz' : Nat, mMi l yX3_swapped wsX3_swapped ({ frames := 10, cells := 0, slots := 0, locals := 220 }) G cy ad' (Sy cy ad' n' k' v' o') sz' [.ref (ad' 4), .int (xs (i + 1))] 0 0 (fun (r2 : Int32) u2 => ∃ v2 : Nat → Nat → Int32, u2 = (ad', Sy cy ad' n' k' v2 o') ∧ v2 4 0 = nI t ∧ (t = 0 → o' 0 = r2.toInt64) ∧ ∃ cs, mInv n' k' v2 cs))) (kk : ∀ (ad' : Nat → Nat) (n' k' : Nat) (v2 : Nat → Nat → Int32) (o' : Nat → Int64) (H' : Heap) (locs' : List Loc) (ls' : Array Slot), (∃ cs, mInv n' k' v2 cs) → mE G (lA s) s.heap ad' (Sy cy ad' n' k' v2 o') H' locs' → lv_has ls' 9 [(4, .int (nI i)), (3, .ref (ad' 12)), (2, .ref (ad' 4)), (1, .ref (ad' 0)), (0, .ref b)] → W p l e room_1 s m #[Value.ref b] below meth c H' locs' (cells + mc) (slots + ms) Q (F0 m 1316 ls' [])) : W p l e room_1 s m #[Value.ref b] below meth c H locs cells slots Q (F0 m 1149 ls []) := by
  refine lv_aload_n hx hb dL_law_1149 rfl (lv_at hl 3 rfl) ?_
  refine lv_aload_n hx hb dL_law_1150 rfl (lv_at hl 4 rfl) ?_
  refine lv_iload hx hb dL_law_1151 (lv_at hl 0 rfl) ?_
  refine lv_iconst (v := nI 1) hx hb dL_law_1153 (by decide) ?_
  refine mv_iadd (z := nI (i + 1)) hx hb (nI_add _ _) dL_law_1154 ?_
  refine mx_sld hx hb hX hbl hE (j := i + 1) rfl (by omega) hL dL_law_1155 ?_
  refine lv_aload_n hx hb dL_law_1156 rfl (lv_at hl 1 rfl) ?_
  refine va_calli (vx_runSW (As := [.ref (ad 0), .int (xs (i + 1)), .ref (ad 12)]) (rest := []) ⟨hx, hb, hml, hown, hts⟩ hLc (vx_cwSW 3 hts gL_law_L_swapped rfl rfl rfl (by decide +kernel) ⟨Nat.le_of_ble_eq_true rfl, Nat.le_of_ble_eq_true rfl⟩) (mP_S hN hE) rfl rfl hl.1 rfl (lv_room (Nat.le_of_ble_eq_true rfl)) dL_law_1157 ⟨by show _ ≤ 601024; omega, by show _ ≤ 7293034; omega⟩) hE.2.2.2 (fun q _ h => mE_A hE q h) (mE_A hE) (fun r uq tq H locs ht hvm hw hB hz1 hk1 hS => ?_)
  obtain ⟨t, n', k', ad', v', o', ht2, hn', hk', rfl, rfl, ea0, ea4, ea12, hM⟩ := hw
  have hE : mE G (lA s) s.heap ad' (Sy cy ad' n' k' v' o') H locs := mE_call hE hB ht hS
  rw [← ea12, ← ea4, ← ea0] at hl
  refine lv_istore (lv' := [(5, .int (nI t)), (4, .int (nI i)), (3, .ref (ad' 12)), (2, .ref (ad' 4)), (1, .ref (ad' 0)), (0, .ref b)]) hx hb dL_law_1160 hl (by decide) rfl (fun ls hl => ?_)
  refine lv_aload_n hx hb dL_law_1162 rfl (lv_at hl 3 rfl) ?_
  refine lv_aload_n hx hb dL_law_1163 rfl (lv_at hl 5 rfl) ?_
  refine lv_iload hx hb dL_law_1164 (lv_at hl 1 rfl) ?_
  refine lv_iconst (v := nI 1) hx hb dL_law_1166 (by decide) ?_
  refine mv_iadd (z := nI (i + 1)) hx hb (nI_add _ _) dL_law_1167 ?_
  refine mx_sld hx hb hX hbl hE (j := i + 1) rfl (by omega) hL dL_law_1168 ?_
  refine va_calli (va_runV (As := [.int (xs (i + 1))]) (rest := []) ⟨hx, hb, hml, hown, hts⟩ (hM H.size) (cwV 1 hts gL_law_X3_swapped rfl rfl rfl (by decide +kernel) ⟨Nat.le_of_ble_eq_true rfl, Nat.le_of_ble_eq_true rfl⟩) (mP_V (r := (RX3, TX3, 11)) hN hE S_4 rfl) rfl rfl hl.1 rfl (lv_room (Nat.le_of_ble_eq_true rfl)) dL_law_1169 ⟨by show _ ≤ 601024; omega, by show _ ≤ 7293034; omega⟩) hE.2.2.2 (fun q _ h => mE_A hE q h) (mE_A hE) (fun r2 uq tq H locs ht hvm hw hB hz1 hk1 hS => ?_)
  obtain ⟨v2, rfl, e0, eo, cs, hI⟩ := hw
  have hE : mE G (lA s) s.heap ad' (Sy cy ad' n' k' v2 o') H locs := mE_call hE hB ht hS
  refine lv_istore (lv' := [(6, .int r2), (5, .int (nI t)), (4, .int (nI i)), (3, .ref (ad' 12)), (2, .ref (ad' 4)), (1, .ref (ad' 0)), (0, .ref b)]) hx hb dL_law_1172 hl (by decide) rfl (fun ls hl => ?_)
  refine lv_aload_n hx hb dL_law_1174 rfl (lv_at hl 4 rfl) ?_
  refine va_calli (va_runV (As := []) (rest := []) ⟨hx, hb, hml, hown, hts⟩ (c_X3_thrown l G cy ad' n' k' n' k' v2 o' hn' hk' _ hI.2.2.1 hI.2.2.2.1) (cwV 0 hts gL_law_X3_thrown rfl rfl rfl (by decide +kernel) ⟨Nat.le_of_ble_eq_true rfl, Nat.le_of_ble_eq_true rfl⟩) (mP_V (r := (RX3, TX3, 11)) hN hE S_4 rfl) rfl rfl hl.1 rfl (lv_room (Nat.le_of_ble_eq_true rfl)) dL_law_1175 ⟨by show _ ≤ 601024; omega, by show _ ≤ 7293034; omega⟩) hE.2.2.2 (fun q _ h => mE_A hE q h) (mE_A hE) (fun r3 uq tq H locs ht hvm hw hB hz1 hk1 hS => ?_)
  obtain ⟨rfl, rfl⟩ := hw
  have hE : mE G (lA s) s.heap ad' (Sy cy ad' n' k' v2 o') H locs := mE_call hE hB ht hS
  rw [e0]
  refine lv_iload hx hb dL_law_1178 (lv_at hl 1 rfl) ?_
  refine mv_eq (tgt := 1185) hx hb (by omega) (by omega) dL_law_1180 (by decide) (fun c1 => ?_) (fun c1 => ?_)
  · skip
    refine lv_iload hx hb dL_law_1185 (lv_at hl 1 rfl) ?_
    refine lv_if_ne (tgt := 1202) hx hb dL_law_1187 (by decide) (fun c2 => ?_) (fun c2 => ?_)
    · skip
      have c2 : ¬ t = 0 := fun h9 => c2 ((mz_eq (by omega)).mpr h9)
      refine lv_goto (tgt := 1316) hx hb dL_law_1202 (by decide) ?_
      exact kk ad' n' k' v2 o' _ _ _ ⟨cs, hI⟩ hE (lv_sub hl [2, 3, 4, 5, 6] rfl)
    · skip
      have c2 := (mz_eq (by omega)).mp c2
      refine lv_aload_n hx hb dL_law_1190 rfl (lv_at hl 3 rfl) ?_
      refine lv_iconst (v := nI 0) hx hb dL_law_1191 (by decide) ?_
      refine mx_lald hx hb hN hE S_12 (j := 0) rfl (by decide) (by decide) dL_law_1192 ?_
      refine lv_iload hx hb dL_law_1193 (lv_at hl 0 rfl) ?_
      refine lv_i2l hx hb dL_law_1195 rfl ?_
      rw [eo c2]
      refine W.lcmp hx hb dL_law_1196 ?_
      rw [lg_same]
      refine lv_if_eq (tgt := 1202) hx hb dL_law_1197 (by decide) (fun c3 => ?_) (fun c3 => ?_)
      · skip
        refine lv_goto (tgt := 1316) hx hb dL_law_1202 (by decide) ?_
        exact kk ad' n' k' v2 o' _ _ _ ⟨cs, hI⟩ hE (lv_sub hl [2, 3, 4, 5, 6] rfl)
      · skip
        exact absurd rfl c3
  · skip
    exact absurd rfl c1

set_option maxHeartbeats 4000000 in
set_option maxRecDepth 100000 in
/-- a step of the law: count -/
theorem st_count {p : Program} {l : Launch} {e : Env} {s : State} {m : MethodId} {below : List Frame} {meth : Method} {c : Code} {Q : State → Prop} {b L : Nat} {xs : Nat → Int32} (hx : p.tables.exec = Jvm.exec) (hb : c.code = cL_law) (hml : c.maxLocals = 9) (hown : s.vm.findClass RL = some m.cls) (hts : ∀ w ∈ wsL_law, w.before #[Value.ref b] s = true) (hX : va_X b L xs s s.heap) (hbl : b < s.heap.size) (hL : L ≤ 3584) {G : va_G} {cy : Nat → ClassId} (hN : mN G cy (lA s) s) {ad : Nat → Nat} {n k : Nat} {v : Nat → Nat → Int32} {o : Nat → Int64} {i : Nat} (hi : i + 7 ≤ L) {H : Heap} {locs : List Loc} {cells slots : Nat} (hcells : cells + 4 ≤ 601024) (hslots : slots + 60 ≤ 7293034) {ls : Array Slot} (hE : mE G (lA s) s.heap ad (Sy cy ad n k v o) H locs) (hl : lv_has ls 9 [(4, .int (nI i)), (3, .ref (ad 12)), (2, .ref (ad 4)), (1, .ref (ad 0)), (0, .ref b)]) {mc ms : Nat} (hmc : mc ≤ 4) (hms : ms ≤ 60) (hLc : mMi l yL_count wsL_count ({ frames := 11, cells := mc, slots := ms, locals := 260 }) G cy ad (Sy cy ad n k v o) H.size [.ref (ad 0), .int (xs (i + 1)), .ref (ad 12)] mc ms (fun (r : Int32) u => ∃ (t n' k' : Nat) (ad' : Nat → Nat) (v' : Nat → Nat → Int32) (o' : Nat → Int64), t ≤ 2 ∧ n' ≤ 6 ∧ k' ≤ 20 ∧ r = nI t ∧ u = (ad', Sy cy ad' n' k' v' o') ∧ ad' 0 = ad 0 ∧ ad' 4 = ad 4 ∧ ad' 12 = ad 12 ∧ ∀ sz' : Nat, mMi l yX3_count wsX3_count ({ frames := 11, cells := 0, slots := 0, locals := 260 }) G cy ad' (Sy cy ad' n' k' v' o') sz' [.ref (ad' 4), .int (xs (i + 1))] 0 0 (fun (r2 : Int32) u2 => ∃ v2 : Nat → Nat → Int32, u2 = (ad', Sy cy ad' n' k' v2 o') ∧ v2 4 0 = nI t ∧ (t = 0 → o' 0 = r2.toInt64) ∧ ∃ cs, mInv n' k' v2 cs))) (kk : ∀ (ad' : Nat → Nat) (n' k' : Nat) (v2 : Nat → Nat → Int32) (o' : Nat → Int64) (H' : Heap) (locs' : List Loc) (ls' : Array Slot), (∃ cs, mInv n' k' v2 cs) → mE G (lA s) s.heap ad' (Sy cy ad' n' k' v2 o') H' locs' → lv_has ls' 9 [(4, .int (nI i)), (3, .ref (ad' 12)), (2, .ref (ad' 4)), (1, .ref (ad' 0)), (0, .ref b)] → W p l e room_1 s m #[Value.ref b] below meth c H' locs' (cells + mc) (slots + ms) Q (F0 m 1316 ls' [])) : W p l e room_1 s m #[Value.ref b] below meth c H locs cells slots Q (F0 m 1205 ls []) := by
  refine lv_aload_n hx hb dL_law_1205 rfl (lv_at hl 3 rfl) ?_
  refine lv_aload_n hx hb dL_law_1206 rfl (lv_at hl 4 rfl) ?_
  refine lv_iload hx hb dL_law_1207 (lv_at hl 0 rfl) ?_
  refine lv_iconst (v := nI 1) hx hb dL_law_1209 (by decide) ?_
  refine mv_iadd (z := nI (i + 1)) hx hb (nI_add _ _) dL_law_1210 ?_
  refine mx_sld hx hb hX hbl hE (j := i + 1) rfl (by omega) hL dL_law_1211 ?_
  refine lv_aload_n hx hb dL_law_1212 rfl (lv_at hl 1 rfl) ?_
  refine va_calli (vx_runSW (As := [.ref (ad 0), .int (xs (i + 1)), .ref (ad 12)]) (rest := []) ⟨hx, hb, hml, hown, hts⟩ hLc (vx_cwSW 3 hts gL_law_L_count rfl rfl rfl (by decide +kernel) ⟨Nat.le_of_ble_eq_true rfl, Nat.le_of_ble_eq_true rfl⟩) (mP_S hN hE) rfl rfl hl.1 rfl (lv_room (Nat.le_of_ble_eq_true rfl)) dL_law_1213 ⟨by show _ ≤ 601024; omega, by show _ ≤ 7293034; omega⟩) hE.2.2.2 (fun q _ h => mE_A hE q h) (mE_A hE) (fun r uq tq H locs ht hvm hw hB hz1 hk1 hS => ?_)
  obtain ⟨t, n', k', ad', v', o', ht2, hn', hk', rfl, rfl, ea0, ea4, ea12, hM⟩ := hw
  have hE : mE G (lA s) s.heap ad' (Sy cy ad' n' k' v' o') H locs := mE_call hE hB ht hS
  rw [← ea12, ← ea4, ← ea0] at hl
  refine lv_istore (lv' := [(5, .int (nI t)), (4, .int (nI i)), (3, .ref (ad' 12)), (2, .ref (ad' 4)), (1, .ref (ad' 0)), (0, .ref b)]) hx hb dL_law_1216 hl (by decide) rfl (fun ls hl => ?_)
  refine lv_aload_n hx hb dL_law_1218 rfl (lv_at hl 3 rfl) ?_
  refine lv_aload_n hx hb dL_law_1219 rfl (lv_at hl 5 rfl) ?_
  refine lv_iload hx hb dL_law_1220 (lv_at hl 1 rfl) ?_
  refine lv_iconst (v := nI 1) hx hb dL_law_1222 (by decide) ?_
  refine mv_iadd (z := nI (i + 1)) hx hb (nI_add _ _) dL_law_1223 ?_
  refine mx_sld hx hb hX hbl hE (j := i + 1) rfl (by omega) hL dL_law_1224 ?_
  refine va_calli (va_runV (As := [.int (xs (i + 1))]) (rest := []) ⟨hx, hb, hml, hown, hts⟩ (hM H.size) (cwV 1 hts gL_law_X3_count rfl rfl rfl (by decide +kernel) ⟨Nat.le_of_ble_eq_true rfl, Nat.le_of_ble_eq_true rfl⟩) (mP_V (r := (RX3, TX3, 11)) hN hE S_4 rfl) rfl rfl hl.1 rfl (lv_room (Nat.le_of_ble_eq_true rfl)) dL_law_1225 ⟨by show _ ≤ 601024; omega, by show _ ≤ 7293034; omega⟩) hE.2.2.2 (fun q _ h => mE_A hE q h) (mE_A hE) (fun r2 uq tq H locs ht hvm hw hB hz1 hk1 hS => ?_)
  obtain ⟨v2, rfl, e0, eo, cs, hI⟩ := hw
  have hE : mE G (lA s) s.heap ad' (Sy cy ad' n' k' v2 o') H locs := mE_call hE hB ht hS
  refine lv_istore (lv' := [(6, .int r2), (5, .int (nI t)), (4, .int (nI i)), (3, .ref (ad' 12)), (2, .ref (ad' 4)), (1, .ref (ad' 0)), (0, .ref b)]) hx hb dL_law_1228 hl (by decide) rfl (fun ls hl => ?_)
  refine lv_aload_n hx hb dL_law_1230 rfl (lv_at hl 4 rfl) ?_
  refine va_calli (va_runV (As := []) (rest := []) ⟨hx, hb, hml, hown, hts⟩ (c_X3_thrown l G cy ad' n' k' n' k' v2 o' hn' hk' _ hI.2.2.1 hI.2.2.2.1) (cwV 0 hts gL_law_X3_thrown rfl rfl rfl (by decide +kernel) ⟨Nat.le_of_ble_eq_true rfl, Nat.le_of_ble_eq_true rfl⟩) (mP_V (r := (RX3, TX3, 11)) hN hE S_4 rfl) rfl rfl hl.1 rfl (lv_room (Nat.le_of_ble_eq_true rfl)) dL_law_1231 ⟨by show _ ≤ 601024; omega, by show _ ≤ 7293034; omega⟩) hE.2.2.2 (fun q _ h => mE_A hE q h) (mE_A hE) (fun r3 uq tq H locs ht hvm hw hB hz1 hk1 hS => ?_)
  obtain ⟨rfl, rfl⟩ := hw
  have hE : mE G (lA s) s.heap ad' (Sy cy ad' n' k' v2 o') H locs := mE_call hE hB ht hS
  rw [e0]
  refine lv_iload hx hb dL_law_1234 (lv_at hl 1 rfl) ?_
  refine mv_eq (tgt := 1241) hx hb (by omega) (by omega) dL_law_1236 (by decide) (fun c1 => ?_) (fun c1 => ?_)
  · skip
    refine lv_iload hx hb dL_law_1241 (lv_at hl 1 rfl) ?_
    refine lv_if_ne (tgt := 1258) hx hb dL_law_1243 (by decide) (fun c2 => ?_) (fun c2 => ?_)
    · skip
      have c2 : ¬ t = 0 := fun h9 => c2 ((mz_eq (by omega)).mpr h9)
      refine lv_goto (tgt := 1316) hx hb dL_law_1258 (by decide) ?_
      exact kk ad' n' k' v2 o' _ _ _ ⟨cs, hI⟩ hE (lv_sub hl [2, 3, 4, 5, 6] rfl)
    · skip
      have c2 := (mz_eq (by omega)).mp c2
      refine lv_aload_n hx hb dL_law_1246 rfl (lv_at hl 3 rfl) ?_
      refine lv_iconst (v := nI 0) hx hb dL_law_1247 (by decide) ?_
      refine mx_lald hx hb hN hE S_12 (j := 0) rfl (by decide) (by decide) dL_law_1248 ?_
      refine lv_iload hx hb dL_law_1249 (lv_at hl 0 rfl) ?_
      refine lv_i2l hx hb dL_law_1251 rfl ?_
      rw [eo c2]
      refine W.lcmp hx hb dL_law_1252 ?_
      rw [lg_same]
      refine lv_if_eq (tgt := 1258) hx hb dL_law_1253 (by decide) (fun c3 => ?_) (fun c3 => ?_)
      · skip
        refine lv_goto (tgt := 1316) hx hb dL_law_1258 (by decide) ?_
        exact kk ad' n' k' v2 o' _ _ _ ⟨cs, hI⟩ hE (lv_sub hl [2, 3, 4, 5, 6] rfl)
      · skip
        exact absurd rfl c3
  · skip
    exact absurd rfl c1
