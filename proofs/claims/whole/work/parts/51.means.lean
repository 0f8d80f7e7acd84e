theorem mTot_eq {F F' : Nat → Nat → Int32} {n : Nat} (h : ∀ i, i < n → ∀ q, 1 ≤ q → q < 32 → F i q = F' i q) : ∀ t, t ≤ n → mTot F t = mTot F' t := by
  intro t
  induction t with
  | zero => intro _; rfl
  | succ t ih =>
    intro ht
    show mTo1 (F t) (mTot F t) 31 = mTo1 (F' t) (mTot F' t) 31
    rw [ih (by omega)]
    exact mTo1_eq (h t (by omega)) _ 31 (by decide)

set_option maxHeartbeats 4000000 in
set_option maxRecDepth 100000 in
/-- a step of the law: mean -/
theorem st_mean {p : Program} {l : Launch} {e : Env} {s : State} {m : MethodId} {below : List Frame} {meth : Method} {c : Code} {Q : State → Prop} {b L : Nat} {xs : Nat → Int32} (hx : p.tables.exec = Jvm.exec) (hb : c.code = cL_law) (hml : c.maxLocals = 9) (hown : s.vm.findClass RL = some m.cls) (hts : ∀ w ∈ wsL_law, w.before #[Value.ref b] s = true) (hX : va_X b L xs s s.heap) (hbl : b < s.heap.size) (hL : L ≤ 3584) {G : va_G} {cy : Nat → ClassId} (hN : mN G cy (lA s) s) {ad : Nat → Nat} {n k : Nat} {v : Nat → Nat → Int32} {o : Nat → Int64} {i : Nat} (hi : i + 7 ≤ L) {H : Heap} {locs : List Loc} {cells slots : Nat} (hcells : cells + 4 ≤ 601024) (hslots : slots + 60 ≤ 7293034) {ls : Array Slot} (hE : mE G (lA s) s.heap ad (Sy cy ad n k v o) H locs) (hl : lv_has ls 9 [(4, .int (nI i)), (3, .ref (ad 12)), (2, .ref (ad 4)), (1, .ref (ad 0)), (0, .ref b)]) {cs : Nat → Nat} (hI : mInv n k v cs) (kk : ∀ (ad' : Nat → Nat) (n' k' : Nat) (v2 : Nat → Nat → Int32) (o' : Nat → Int64) (H' : Heap) (locs' : List Loc) (ls' : Array Slot), (∃ cs, mInv n' k' v2 cs) → mE G (lA s) s.heap ad' (Sy cy ad' n' k' v2 o') H' locs' → lv_has ls' 9 [(4, .int (nI i)), (3, .ref (ad' 12)), (2, .ref (ad' 4)), (1, .ref (ad' 0)), (0, .ref b)] → W p l e room_1 s m #[Value.ref b] below meth c H' locs' (cells + 0) (slots + 0) Q (F0 m 1316 ls' [])) : W p l e room_1 s m #[Value.ref b] below meth c H locs cells slots Q (F0 m 1261 ls []) := by
  refine lv_aload_n hx hb dL_law_1261 rfl (lv_at hl 3 rfl) ?_
  refine va_calld (va_runV (As := []) (rest := []) ⟨hx, hb, hml, hown, hts⟩ (c_X2_mean l G cy ad n k v o hI.1 hI.2.1 _) (cwV 0 hts gL_law_X2_mean rfl rfl rfl (by decide +kernel) ⟨Nat.le_of_ble_eq_true rfl, Nat.le_of_ble_eq_true rfl⟩) (mP_V (r := (RX2, TX2, 5)) hN hE S_0 rfl) rfl rfl hl.1 rfl (lv_room (Nat.le_of_ble_eq_true rfl)) dL_law_1262 ⟨by show _ ≤ 601024; omega, by show _ ≤ 7293034; omega⟩) hE.2.2.2 (fun q _ h => mE_A hE q h) (mE_A hE) (fun r uq tq H locs ht hvm hw hB hz1 hk1 hS => ?_)
  obtain ⟨rfl, rfl⟩ := hw
  have hE : mE G (lA s) s.heap ad (Sy cy ad n k v o) H locs := mE_call hE hB ht hS
  obtain ⟨z, hz⟩ : ∃ z : UInt64, z = (if n = 0 then FP.dconst0 else FP.ddiv (FP.i2d (mTot (fun i => v (300 + i)) n)) (FP.i2d (nI (31 * n)))) := ⟨_, rfl⟩
  rw [← hz]
  refine lv_dstore (lv' := [(5, .double z), (4, .int (nI i)), (3, .ref (ad 12)), (2, .ref (ad 4)), (1, .ref (ad 0)), (0, .ref b)]) hx hb dL_law_1265 hl (by decide) rfl (fun ls hl => ?_)
  refine lv_aload_n hx hb dL_law_1267 rfl (lv_at hl 3 rfl) ?_
  refine va_calld (va_runV (As := []) (rest := []) ⟨hx, hb, hml, hown, hts⟩ (c_X3_mean l G cy ad n k n k v o hI.1 hI.2.1 _ hI.2.2.1 hI.2.2.2.1 rfl) (cwV 0 hts gL_law_X3_mean rfl rfl rfl (by decide +kernel) ⟨Nat.le_of_ble_eq_true rfl, Nat.le_of_ble_eq_true rfl⟩) (mP_V (r := (RX3, TX3, 11)) hN hE S_4 rfl) rfl rfl hl.1 rfl (lv_room (Nat.le_of_ble_eq_true rfl)) dL_law_1268 ⟨by show _ ≤ 601024; omega, by show _ ≤ 7293034; omega⟩) hE.2.2.2 (fun q _ h => mE_A hE q h) (mE_A hE) (fun r uq tq H locs ht hvm hw hB hz1 hk1 hS => ?_)
  obtain ⟨rfl, v2, rfl, hq⟩ := hw
  have hE : mE G (lA s) s.heap ad (Sy cy ad n k v2 o) H locs := mE_call hE hB ht hS
  rw [← mTot_eq (fun i hi q q1 q2 => mRel_S (mInv_rel hI) hi q q1 q2) n (Nat.le_refl _), ← hz]
  refine lv_dstore (lv' := [(7, .double z), (5, .double z), (4, .int (nI i)), (3, .ref (ad 12)), (2, .ref (ad 4)), (1, .ref (ad 0)), (0, .ref b)]) hx hb dL_law_1271 hl (by decide) rfl (fun ls hl => ?_)
  have fin : W p l e room_1 s m #[Value.ref b] below meth c H locs (cells + 0 + 0) (slots + 0 + 0) Q (F0 m 1316 ls []) := kk ad n k v2 o _ _ _ ⟨cs, mInv_Q hI hq⟩ hE (lv_sub hl [2, 3, 4, 5, 6] rfl)
  refine lv_dload hx hb dL_law_1273 (lv_at hl 1 rfl) ?_
  refine lv_dload hx hb dL_law_1275 (lv_at hl 0 rfl) ?_
  refine lv_dcmp hx hb dL_law_1277 ?_
  obtain ⟨v0, hv0⟩ : ∃ v0, v0 = Op.cmpValue (FP.dcmp z z) CmpOp.l := ⟨_, rfl⟩
  rw [← hv0]
  refine lv_if_eq (tgt := 1299) hx hb dL_law_1278 (by decide) (fun hv => ?_) (fun hv => ?_)
  · exact lv_goto (tgt := 1316) hx hb dL_law_1299 (by decide) fin
  · refine lv_dload hx hb dL_law_1281 (lv_at hl 1 rfl) ?_
    refine lv_dload hx hb dL_law_1283 (lv_at hl 1 rfl) ?_
    refine lv_dcmp hx hb dL_law_1285 ?_
    rw [← hv0]
    refine lv_if_eq (tgt := 1297) hx hb dL_law_1286 (by decide) (fun h0 => absurd h0 hv) (fun _ => ?_)
    refine lv_dload hx hb dL_law_1289 (lv_at hl 0 rfl) ?_
    refine lv_dload hx hb dL_law_1291 (lv_at hl 0 rfl) ?_
    refine lv_dcmp hx hb dL_law_1293 ?_
    rw [← hv0]
    refine lv_if_ne (tgt := 1299) hx hb dL_law_1294 (by decide) (fun _ => ?_) (fun h0 => absurd h0 hv)
    exact lv_goto (tgt := 1316) hx hb dL_law_1299 (by decide) fin

set_option maxHeartbeats 4000000 in
set_option maxRecDepth 100000 in
/-- a step of the law: digest -/
theorem st_digest {p : Program} {l : Launch} {e : Env} {s : State} {m : MethodId} {below : List Frame} {meth : Method} {c : Code} {Q : State → Prop} {b L : Nat} {xs : Nat → Int32} (hx : p.tables.exec = Jvm.exec) (hb : c.code = cL_law) (hml : c.maxLocals = 9) (hown : s.vm.findClass RL = some m.cls) (hts : ∀ w ∈ wsL_law, w.before #[Value.ref b] s = true) (hX : va_X b L xs s s.heap) (hbl : b < s.heap.size) (hL : L ≤ 3584) {G : va_G} {cy : Nat → ClassId} (hN : mN G cy (lA s) s) {ad : Nat → Nat} {n k : Nat} {v : Nat → Nat → Int32} {o : Nat → Int64} {i : Nat} (hi : i + 7 ≤ L) {H : Heap} {locs : List Loc} {cells slots : Nat} (hcells : cells + 4 ≤ 601024) (hslots : slots + 60 ≤ 7293034) {ls : Array Slot} (hE : mE G (lA s) s.heap ad (Sy cy ad n k v o) H locs) (hl : lv_has ls 9 [(4, .int (nI i)), (3, .ref (ad 12)), (2, .ref (ad 4)), (1, .ref (ad 0)), (0, .ref b)]) {cs : Nat → Nat} (hI : mInv n k v cs) (kk : ∀ (ad' : Nat → Nat) (n' k' : Nat) (v2 : Nat → Nat → Int32) (o' : Nat → Int64) (H' : Heap) (locs' : List Loc) (ls' : Array Slot), (∃ cs, mInv n' k' v2 cs) → mE G (lA s) s.heap ad' (Sy cy ad' n' k' v2 o') H' locs' → lv_has ls' 9 [(4, .int (nI i)), (3, .ref (ad' 12)), (2, .ref (ad' 4)), (1, .ref (ad' 0)), (0, .ref b)] → W p l e room_1 s m #[Value.ref b] below meth c H' locs' (cells + 0) (slots + 0) Q (F0 m 1316 ls' [])) : W p l e room_1 s m #[Value.ref b] below meth c H locs cells slots Q (F0 m 1302 ls []) := by
  refine lv_aload_n hx hb dL_law_1302 rfl (lv_at hl 3 rfl) ?_
  refine va_calll (va_runV (As := []) (rest := []) ⟨hx, hb, hml, hown, hts⟩ (c_X2_digest l G cy ad n k v o hI.1 hI.2.1 _ cs (fun j hj => ⟨(mInv_sel hI j hj).1, (mInv_sel hI j hj).2.2.1⟩)) (cwV 0 hts gL_law_X2_digest rfl rfl rfl (by decide +kernel) ⟨Nat.le_of_ble_eq_true rfl, Nat.le_of_ble_eq_true rfl⟩) (mP_V (r := (RX2, TX2, 5)) hN hE S_0 rfl) rfl rfl hl.1 rfl (lv_room (Nat.le_of_ble_eq_true rfl)) dL_law_1303 ⟨by show _ ≤ 601024; omega, by show _ ≤ 7293034; omega⟩) hE.2.2.2 (fun q _ h => mE_A hE q h) (mE_A hE) (fun r uq tq H locs ht hvm hw hB hz1 hk1 hS => ?_)
  obtain ⟨rfl, rfl⟩ := hw
  have hE : mE G (lA s) s.heap ad (Sy cy ad n k v o) H locs := mE_call hE hB ht hS
  obtain ⟨z, hz⟩ : ∃ z : Int64, z = mDigest (mCount v n k) (mTold v k) (fun i => v (200 + i)) (fun j => mAbout v j (cs j)) n k := ⟨_, rfl⟩
  rw [← hz]
  refine lv_aload_n hx hb dL_law_1306 rfl (lv_at hl 2 rfl) ?_
  refine va_calll (va_runV (As := []) (rest := [.long z]) ⟨hx, hb, hml, hown, hts⟩ (c_X3_digest l G cy ad n k n k v o hI.1 hI.2.1 _ hI.2.2.1 hI.2.2.2.1 rfl rfl rfl rfl rfl cs (fun j hj => ⟨(mInv_sel hI j hj).1, (mInv_sel hI j hj).2.1⟩)) (cwV 0 hts gL_law_X3_digest rfl rfl rfl (by decide +kernel) ⟨Nat.le_of_ble_eq_true rfl, Nat.le_of_ble_eq_true rfl⟩) (mP_V (r := (RX3, TX3, 11)) hN hE S_4 rfl) rfl rfl hl.1 rfl (lv_room (Nat.le_of_ble_eq_true rfl)) dL_law_1307 ⟨by show _ ≤ 601024; omega, by show _ ≤ 7293034; omega⟩) hE.2.2.2 (fun q _ h => mE_A hE q h) (mE_A hE) (fun r uq tq H locs ht hvm hw hB hz1 hk1 hS => ?_)
  obtain ⟨rfl, v2, rfl, hq⟩ := hw
  have hE : mE G (lA s) s.heap ad (Sy cy ad n k v2 o) H locs := mE_call hE hB ht hS
  have hg := mInv_agr hI
  rw [← mDigest_eq (fun z hz => mCount_eq hg z) (fun i hi z hz => mTold_eq hg hi z) (fun i hi z hz => (hg.1 i hi).1 z hz) (fun j hj z hz => mAbout_eq hg hj (mInv_sel hI j hj).1 z), ← hz]
  refine W.lcmp hx hb dL_law_1310 ?_
  rw [lg_same]
  refine lv_if_eq (tgt := 1316) hx hb dL_law_1311 (by decide) (fun _ => ?_) (fun h0 => absurd rfl h0)
  exact kk ad n k v2 o _ _ _ ⟨cs, mInv_Q hI hq⟩ hE hl
