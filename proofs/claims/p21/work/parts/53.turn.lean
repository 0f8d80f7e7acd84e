section JD
variable {f g : Nat → Int32} {d t : Nat}
theorem jDo_l (h : jDo f g d (t + 1) = true) : jDo f g d t = true := by
  simp only [jDo, Bool.and_eq_true] at h
  exact h.1
theorem jDo_r (h : jDo f g d (t + 1) = true) (he : f ((16 + d) / 2 ^ t) = g ((16 + d) / 2 ^ t)) : False := by
  simp only [jDo, Bool.and_eq_true, Bool.not_eq_true', decide_eq_false_iff_not] at h
  exact h.2 he
theorem jDo_n (h : jDo f g d t = true) (he : ¬ f ((16 + d) / 2 ^ t) = g ((16 + d) / 2 ^ t)) : jDo f g d (t + 1) = true := by
  simp only [jDo, Bool.and_eq_true, Bool.not_eq_true', decide_eq_false_iff_not]
  exact ⟨h, he⟩
theorem mBes_pos : ∀ d, d < 16 → ∀ t, t < 4 → 1 ≤ mBes d t := by decide +kernel
end JD

set_option maxHeartbeats 8000000 in
set_option maxRecDepth 100000 in
/-- the law's sums -/
theorem s4 {p : Program} {l : Launch} {e : Env} {s : State} {m : MethodId} {below : List Frame} {meth : Method} {c : Code} {Q : State → Prop} {b : Nat} {G : va_G} {cy : Nat → ClassId} (hx : p.tables.exec = Jvm.exec) (hb : c.code = cL_law) (hml : c.maxLocals = 17) (hown : s.vm.findClass RL = some m.cls) (hts : ∀ w ∈ wsL_law, w.before #[Value.ref b] s = true) (hN : mN G cy (lA s) s) {ad : Nat → Nat} {n k : Nat} {v u : Nat → Nat → Int32} {C cs ms : Nat → Nat} {T : Nat} (hJ : jV n k v u C cs ms T) (hn0 : 1 ≤ n) {xv : Int32} {tm : Nat} {H : Heap} {locs : List Loc} {ls : Array Slot} {cells slots : Nat} (hc9 : cells + 0 ≤ 667787) (hs9 : slots + 0 ≤ 7098410) (hE : mE G (lA s) s.heap ad (Sy cy ad n k v (Si cy ad n k u jN0)) H locs) (hl : lv_has ls 17 [(4, .int xv), (3, .int (nI tm)), (2, .ref (ad 4)), (1, .ref (ad 0)), (0, .ref b)]) (kk : ∀ (H : Heap) (locs : List Loc) (ls : Array Slot) (a9 b9 : Nat), a9 < n → b9 < n → mE G (lA s) s.heap ad (Sy cy ad n k v (Si cy ad n k u jN0)) H locs → lv_has ls 17 [(10, .int (nI b9)), (9, .int (nI a9)), (8, .int (nI n)), (4, .int xv), (3, .int (nI tm)), (2, .ref (ad 4)), (1, .ref (ad 0)), (0, .ref b)] → W p l e room_1 s m #[Value.ref b] below meth c H locs cells slots Q (F0 m 358 ls [])) : W p l e room_1 s m #[Value.ref b] below meth c H locs cells slots Q (F0 m 227 ls []) := by
  have hn := hJ.1
  have hk := hJ.2.1
  have hN6 := hJ.1
  refine lv_aload_n hx hb dL_law_227 rfl (lv_at hl 3 rfl) ?_
  refine lv_iconst (v := nI 0) hx hb dL_law_228 (by decide) ?_
  refine va_calli (va_runV (As := [.int (nI 0)]) (rest := []) ⟨hx, hb, hml, hown, hts⟩ (c_X2_count l G cy ad n k v (Si cy ad n k u jN0) hn hk _ 0 (by decide)) (cwV 1 hts gL_law_X2_count rfl rfl rfl (by decide +kernel) ⟨Nat.le_of_ble_eq_true rfl, Nat.le_of_ble_eq_true rfl⟩) (mP_V (r := (RX2, TX2, 5)) hN hE S_0 rfl) rfl rfl hl.1 rfl (lv_room (Nat.le_of_ble_eq_true rfl)) dL_law_229 ⟨(by show _ ≤ 667787; omega), (by show _ ≤ 7098410; omega)⟩) hE.2.2.2 (fun q _ h => mE_A hE q h) (mE_A hE) (fun r uq tq H locs ht hvm hw hB hz1 hk1 hS => ?_)
  obtain ⟨rfl, rfl⟩ := hw
  have hE : mE G (lA s) s.heap ad (Sy cy ad n k v (Si cy ad n k u jN0)) H locs := mE_call hE hB ht hS
  refine lv_istore (lv' := [(8, .int (nI n)), (4, .int xv), (3, .int (nI tm)), (2, .ref (ad 4)), (1, .ref (ad 0)), (0, .ref b)]) hx hb dL_law_232 hl (by decide) rfl (fun ls hl => ?_)
  refine lv_iload hx hb dL_law_234 (lv_at hl 1 rfl) ?_
  refine lv_iconst (v := nI 3) hx hb dL_law_236 (by decide) ?_
  refine mv_ishr (z := xv >>> ((nI 3) &&& 31)) hx hb rfl dL_law_237 ?_
  refine lv_iload hx hb dL_law_238 (lv_at hl 0 rfl) ?_
  refine va_calli (va_runS (As := [.int (xv >>> ((nI 3) &&& 31)), .int (nI n)]) (rest := []) ⟨hx, hb, hml, hown, hts⟩ (c_L_below l G cy ad (Sy cy ad n k v (Si cy ad n k u jN0)) _ (xv >>> ((nI 3) &&& 31)) n (by omega) (by omega)) (va_cwS 2 hts gL_law_L_below rfl rfl rfl (by decide +kernel) ⟨Nat.le_of_ble_eq_true rfl, Nat.le_of_ble_eq_true rfl⟩) (mP_S hN hE) rfl rfl hl.1 rfl (lv_room (Nat.le_of_ble_eq_true rfl)) dL_law_240 ⟨(by show _ ≤ 667787; omega), (by show _ ≤ 7098410; omega)⟩) hE.2.2.2 (fun q _ h => mE_A hE q h) (mE_A hE) (fun r uq tq H locs ht hvm hw hB hz1 hk1 hS => ?_)
  obtain ⟨rfl, rfl⟩ := hw
  have hE : mE G (lA s) s.heap ad (Sy cy ad n k v (Si cy ad n k u jN0)) H locs := mE_call hE hB ht hS
  obtain ⟨a9, hq_a9⟩ : ∃ y99, y99 = jBe (xv >>> ((nI 3) &&& 31)) n := ⟨_, rfl⟩
  rw [← hq_a9]
  have h_a9 : a9 < n := by rw [hq_a9]; exact jBe_lt _ (by omega)
  refine lv_istore (lv' := [(9, .int (nI a9)), (8, .int (nI n)), (4, .int xv), (3, .int (nI tm)), (2, .ref (ad 4)), (1, .ref (ad 0)), (0, .ref b)]) hx hb dL_law_243 hl (by decide) rfl (fun ls hl => ?_)
  refine lv_iload hx hb dL_law_245 (lv_at hl 2 rfl) ?_
  refine lv_iconst (v := nI 5) hx hb dL_law_247 (by decide) ?_
  refine mv_ishr (z := xv >>> ((nI 5) &&& 31)) hx hb rfl dL_law_248 ?_
  refine lv_iload hx hb dL_law_249 (lv_at hl 1 rfl) ?_
  refine va_calli (va_runS (As := [.int (xv >>> ((nI 5) &&& 31)), .int (nI n)]) (rest := []) ⟨hx, hb, hml, hown, hts⟩ (c_L_below l G cy ad (Sy cy ad n k v (Si cy ad n k u jN0)) _ (xv >>> ((nI 5) &&& 31)) n (by omega) (by omega)) (va_cwS 2 hts gL_law_L_below rfl rfl rfl (by decide +kernel) ⟨Nat.le_of_ble_eq_true rfl, Nat.le_of_ble_eq_true rfl⟩) (mP_S hN hE) rfl rfl hl.1 rfl (lv_room (Nat.le_of_ble_eq_true rfl)) dL_law_251 ⟨(by show _ ≤ 667787; omega), (by show _ ≤ 7098410; omega)⟩) hE.2.2.2 (fun q _ h => mE_A hE q h) (mE_A hE) (fun r uq tq H locs ht hvm hw hB hz1 hk1 hS => ?_)
  obtain ⟨rfl, rfl⟩ := hw
  have hE : mE G (lA s) s.heap ad (Sy cy ad n k v (Si cy ad n k u jN0)) H locs := mE_call hE hB ht hS
  obtain ⟨b9, hq_b9⟩ : ∃ y99, y99 = jBe (xv >>> ((nI 5) &&& 31)) n := ⟨_, rfl⟩
  rw [← hq_b9]
  have h_b9 : b9 < n := by rw [hq_b9]; exact jBe_lt _ (by omega)
  refine lv_istore (lv' := [(10, .int (nI b9)), (9, .int (nI a9)), (8, .int (nI n)), (4, .int xv), (3, .int (nI tm)), (2, .ref (ad 4)), (1, .ref (ad 0)), (0, .ref b)]) hx hb dL_law_254 hl (by decide) rfl (fun ls hl => ?_)
  refine lv_iconst (v := nI 1) hx hb dL_law_256 (by decide) ?_
  refine lv_istore (lv' := [(11, .int (nI 1)), (10, .int (nI b9)), (9, .int (nI a9)), (8, .int (nI n)), (4, .int xv), (3, .int (nI tm)), (2, .ref (ad 4)), (1, .ref (ad 0)), (0, .ref b)]) hx hb dL_law_257 hl (by decide) rfl (fun ls hl => ?_)
  refine mx_loop (β := Nat) (fun n9 (q : Nat) H locs ls => n9 = 32 - q ∧ (1 ≤ q ∧ q ≤ 32) ∧ mE G (lA s) s.heap ad (Sy cy ad n k v (Si cy ad n k u jN0)) H locs ∧ lv_has ls 17 [(11, .int (nI q)), (10, .int (nI b9)), (9, .int (nI a9)), (8, .int (nI n)), (4, .int xv), (3, .int (nI tm)), (2, .ref (ad 4)), (1, .ref (ad 0)), (0, .ref b)]) ?_ (32 - 1) (1) _ _ _ ⟨rfl, ⟨by omega, by omega⟩, hE, lv_sub hl [0, 1, 2, 3, 4, 5, 6, 7, 8] rfl⟩
  intro n9 q H locs ls hI ih1
  obtain ⟨hn2, ⟨hq1, hq2⟩, hE, hl⟩ := hI
  have hE : mE G (lA s) s.heap ad (Sy cy ad n k v (Si cy ad n k u jN0)) H locs := hE
  have hl : lv_has ls 17 [(11, .int (nI q)), (10, .int (nI b9)), (9, .int (nI a9)), (8, .int (nI n)), (4, .int xv), (3, .int (nI tm)), (2, .ref (ad 4)), (1, .ref (ad 0)), (0, .ref b)] := hl
  refine lv_iload hx hb dL_law_259 (lv_at hl 0 rfl) ?_
  refine lv_bipush (v := nI 32) hx hb dL_law_261 (by decide) ?_
  refine mv_ge (tgt := 358) hx hb (by omega) (by omega) dL_law_263 (by decide) (fun c3 => ?_) (fun c3 => ?_)
  · skip
    exact kk _ _ _ a9 b9 h_a9 h_b9 hE (lv_sub hl [1, 2, 3, 4, 5, 6, 7, 8] rfl)
  · skip
    refine lv_iload hx hb dL_law_266 (lv_at hl 0 rfl) ?_
    refine lv_bipush (v := nI 15) hx hb dL_law_268 (by decide) ?_
    refine mv_le (tgt := 299) hx hb (by omega) (by omega) dL_law_270 (by decide) (fun c4 => ?_) (fun c4 => ?_)
    · skip
      refine lv_bipush (v := nI 61) hx hb dL_law_299 (by decide) ?_
      refine lv_aload_n hx hb dL_law_301 rfl (lv_at hl 7 rfl) ?_
      refine lv_iload hx hb dL_law_302 (lv_at hl 2 rfl) ?_
      refine lv_iconst (v := nI 2) hx hb dL_law_304 (by decide) ?_
      refine lv_iload hx hb dL_law_305 (lv_at hl 0 rfl) ?_
      refine mv_imul (z := nI (2 * q)) hx hb (pk_mul _ _) dL_law_307 ?_
      refine va_calli (va_runV (As := [.int (nI a9), .int (nI (2 * q))]) (rest := [.int (nI 61)]) ⟨hx, hb, hml, hown, hts⟩ (c_X2_sum l G cy ad n k v (Si cy ad n k u jN0) hn hk _ a9 h_a9 (2 * q) (by omega) (by omega)) (cwV 2 hts gL_law_X2_sum rfl rfl rfl (by decide +kernel) ⟨Nat.le_of_ble_eq_true rfl, Nat.le_of_ble_eq_true rfl⟩) (mP_V (r := (RX2, TX2, 5)) hN hE S_0 rfl) rfl rfl hl.1 rfl (lv_room (Nat.le_of_ble_eq_true rfl)) dL_law_308 ⟨(by show _ ≤ 667787; omega), (by show _ ≤ 7098410; omega)⟩) hE.2.2.2 (fun q _ h => mE_A hE q h) (mE_A hE) (fun r uq tq H locs ht hvm hw hB hz1 hk1 hS => ?_)
      obtain ⟨rfl, rfl⟩ := hw
      have hE : mE G (lA s) s.heap ad (Sy cy ad n k v (Si cy ad n k u jN0)) H locs := mE_call hE hB ht hS
      refine mv_imul (z := (nI 61) * (v (300 + a9) (2 * q))) hx hb rfl dL_law_311 ?_
      refine lv_bipush (v := nI 89) hx hb dL_law_312 (by decide) ?_
      refine lv_aload_n hx hb dL_law_314 rfl (lv_at hl 7 rfl) ?_
      refine lv_iload hx hb dL_law_315 (lv_at hl 2 rfl) ?_
      refine lv_iconst (v := nI 2) hx hb dL_law_317 (by decide) ?_
      refine lv_iload hx hb dL_law_318 (lv_at hl 0 rfl) ?_
      refine mv_imul (z := nI (2 * q)) hx hb (pk_mul _ _) dL_law_320 ?_
      refine lv_iconst (v := nI 1) hx hb dL_law_321 (by decide) ?_
      refine mv_iadd (z := nI ((2 * q) + 1)) hx hb (nI_add _ _) dL_law_322 ?_
      refine va_calli (va_runV (As := [.int (nI a9), .int (nI ((2 * q) + 1))]) (rest := [.int (nI 89), .int ((nI 61) * (v (300 + a9) (2 * q)))]) ⟨hx, hb, hml, hown, hts⟩ (c_X2_sum l G cy ad n k v (Si cy ad n k u jN0) hn hk _ a9 h_a9 ((2 * q) + 1) (by omega) (by omega)) (cwV 2 hts gL_law_X2_sum rfl rfl rfl (by decide +kernel) ⟨Nat.le_of_ble_eq_true rfl, Nat.le_of_ble_eq_true rfl⟩) (mP_V (r := (RX2, TX2, 5)) hN hE S_0 rfl) rfl rfl hl.1 rfl (lv_room (Nat.le_of_ble_eq_true rfl)) dL_law_323 ⟨(by show _ ≤ 667787; omega), (by show _ ≤ 7098410; omega)⟩) hE.2.2.2 (fun q _ h => mE_A hE q h) (mE_A hE) (fun r uq tq H locs ht hvm hw hB hz1 hk1 hS => ?_)
      obtain ⟨rfl, rfl⟩ := hw
      have hE : mE G (lA s) s.heap ad (Sy cy ad n k v (Si cy ad n k u jN0)) H locs := mE_call hE hB ht hS
      refine mv_imul (z := (nI 89) * (v (300 + a9) ((2 * q) + 1))) hx hb rfl dL_law_326 ?_
      refine mv_iadd (z := ((nI 61) * (v (300 + a9) (2 * q))) + ((nI 89) * (v (300 + a9) ((2 * q) + 1)))) hx hb rfl dL_law_327 ?_
      refine lv_iload hx hb dL_law_328 (lv_at hl 0 rfl) ?_
      refine mv_iadd (z := (((nI 61) * (v (300 + a9) (2 * q))) + ((nI 89) * (v (300 + a9) ((2 * q) + 1)))) + (nI q)) hx hb rfl dL_law_330 ?_
      refine lv_istore (lv' := [(12, .int ((((nI 61) * (v (300 + a9) (2 * q))) + ((nI 89) * (v (300 + a9) ((2 * q) + 1)))) + (nI q))), (11, .int (nI q)), (10, .int (nI b9)), (9, .int (nI a9)), (8, .int (nI n)), (4, .int xv), (3, .int (nI tm)), (2, .ref (ad 4)), (1, .ref (ad 0)), (0, .ref b)]) hx hb dL_law_331 hl (by decide) rfl (fun ls hl => ?_)
      refine lv_aload_n hx hb dL_law_333 rfl (lv_at hl 8 rfl) ?_
      refine lv_iload hx hb dL_law_334 (lv_at hl 3 rfl) ?_
      refine lv_iload hx hb dL_law_336 (lv_at hl 1 rfl) ?_
      refine va_calli (va_runV (As := [.int (nI a9), .int (nI q)]) (rest := []) ⟨hx, hb, hml, hown, hts⟩ (c_X2_sum l G cy ad n k v (Si cy ad n k u jN0) hn hk _ a9 h_a9 q (by omega) (by omega)) (cwV 2 hts gL_law_X2_sum rfl rfl rfl (by decide +kernel) ⟨Nat.le_of_ble_eq_true rfl, Nat.le_of_ble_eq_true rfl⟩) (mP_V (r := (RX2, TX2, 5)) hN hE S_0 rfl) rfl rfl hl.1 rfl (lv_room (Nat.le_of_ble_eq_true rfl)) dL_law_338 ⟨(by show _ ≤ 667787; omega), (by show _ ≤ 7098410; omega)⟩) hE.2.2.2 (fun q _ h => mE_A hE q h) (mE_A hE) (fun r uq tq H locs ht hvm hw hB hz1 hk1 hS => ?_)
      obtain ⟨rfl, rfl⟩ := hw
      have hE : mE G (lA s) s.heap ad (Sy cy ad n k v (Si cy ad n k u jN0)) H locs := mE_call hE hB ht hS
      refine lv_iload hx hb dL_law_341 (lv_at hl 0 rfl) ?_
      refine lv_sipush (v := nI 997) hx hb dL_law_343 (by decide) ?_
      refine mv_irem (z := mMod ((((nI 61) * (v (300 + a9) (2 * q))) + ((nI 89) * (v (300 + a9) ((2 * q) + 1)))) + (nI q))) hx hb (by decide) rfl dL_law_346 ?_
      refine lv_icmp_eq (tgt := 352) hx hb dL_law_347 (by decide) (fun c5 => ?_) (fun c5 => ?_)
      · skip
        refine lv_iinc (v := nI (q + 1)) (lv' := [(11, .int (nI (q + 1))), (12, .int ((((nI 61) * (v (300 + a9) (2 * q))) + ((nI 89) * (v (300 + a9) ((2 * q) + 1)))) + (nI q))), (10, .int (nI b9)), (9, .int (nI a9)), (8, .int (nI n)), (4, .int xv), (3, .int (nI tm)), (2, .ref (ad 4)), (1, .ref (ad 0)), (0, .ref b)]) hx hb dL_law_352 hl (k := 1) rfl (nI_add _ _) (by decide) rfl (fun ls hl => ?_)
        refine lv_goto (tgt := 259) hx hb dL_law_355 (by decide) ?_
        exact ih1 (32 - (q + 1)) (q + 1) _ _ _ (by rw [hn2]; omega) ⟨rfl, ⟨by omega, by omega⟩, hE, lv_sub hl [0, 2, 3, 4, 5, 6, 7, 8, 9] rfl⟩
      · skip
        exact absurd ((jV_c hJ h_a9).2 q hq1 (by omega)) c5
    · skip
      refine lv_bipush (v := nI 37) hx hb dL_law_273 (by decide) ?_
      refine lv_aload_n hx hb dL_law_275 rfl (lv_at hl 7 rfl) ?_
      refine lv_iload hx hb dL_law_276 (lv_at hl 2 rfl) ?_
      refine lv_iload hx hb dL_law_278 (lv_at hl 0 rfl) ?_
      refine lv_bipush (v := nI 16) hx hb dL_law_280 (by decide) ?_
      refine mv_isub (z := nI (q - 16)) hx hb (pk_sub (by omega)) dL_law_282 ?_
      refine va_calli (va_runV (As := [.int (nI a9), .int (nI (q - 16))]) (rest := [.int (nI 37)]) ⟨hx, hb, hml, hown, hts⟩ (c_X2_thing l G cy ad n k v (Si cy ad n k u jN0) hn hk _ a9 h_a9 (q - 16) (by omega)) (cwV 2 hts gL_law_X2_thing rfl rfl rfl (by decide +kernel) ⟨Nat.le_of_ble_eq_true rfl, Nat.le_of_ble_eq_true rfl⟩) (mP_V (r := (RX2, TX2, 5)) hN hE S_0 rfl) rfl rfl hl.1 rfl (lv_room (Nat.le_of_ble_eq_true rfl)) dL_law_283 ⟨(by show _ ≤ 667787; omega), (by show _ ≤ 7098410; omega)⟩) hE.2.2.2 (fun q _ h => mE_A hE q h) (mE_A hE) (fun r uq tq H locs ht hvm hw hB hz1 hk1 hS => ?_)
      obtain ⟨rfl, rfl⟩ := hw
      have hE : mE G (lA s) s.heap ad (Sy cy ad n k v (Si cy ad n k u jN0)) H locs := mE_call hE hB ht hS
      refine mv_imul (z := (nI 37) * (v (200 + a9) (q - 16))) hx hb rfl dL_law_286 ?_
      refine lv_bipush (v := nI 101) hx hb dL_law_287 (by decide) ?_
      refine lv_iload hx hb dL_law_289 (lv_at hl 0 rfl) ?_
      refine lv_bipush (v := nI 15) hx hb dL_law_291 (by decide) ?_
      refine mv_isub (z := nI (q - 16) + nI 1) hx hb (by rw [nI_add, pk_sub (by omega), show q - 15 = q - 16 + 1 by omega]) dL_law_293 ?_
      refine mv_imul (z := (nI 101) * (nI (q - 16) + nI 1)) hx hb rfl dL_law_294 ?_
      refine mv_iadd (z := ((nI 37) * (v (200 + a9) (q - 16))) + ((nI 101) * (nI (q - 16) + nI 1))) hx hb rfl dL_law_295 ?_
      refine lv_goto (tgt := 331) hx hb dL_law_296 (by decide) ?_
      refine lv_istore (lv' := [(12, .int (((nI 37) * (v (200 + a9) (q - 16))) + ((nI 101) * (nI (q - 16) + nI 1)))), (11, .int (nI q)), (10, .int (nI b9)), (9, .int (nI a9)), (8, .int (nI n)), (4, .int xv), (3, .int (nI tm)), (2, .ref (ad 4)), (1, .ref (ad 0)), (0, .ref b)]) hx hb dL_law_331 hl (by decide) rfl (fun ls hl => ?_)
      refine lv_aload_n hx hb dL_law_333 rfl (lv_at hl 8 rfl) ?_
      refine lv_iload hx hb dL_law_334 (lv_at hl 3 rfl) ?_
      refine lv_iload hx hb dL_law_336 (lv_at hl 1 rfl) ?_
      refine va_calli (va_runV (As := [.int (nI a9), .int (nI q)]) (rest := []) ⟨hx, hb, hml, hown, hts⟩ (c_X2_sum l G cy ad n k v (Si cy ad n k u jN0) hn hk _ a9 h_a9 q (by omega) (by omega)) (cwV 2 hts gL_law_X2_sum rfl rfl rfl (by decide +kernel) ⟨Nat.le_of_ble_eq_true rfl, Nat.le_of_ble_eq_true rfl⟩) (mP_V (r := (RX2, TX2, 5)) hN hE S_0 rfl) rfl rfl hl.1 rfl (lv_room (Nat.le_of_ble_eq_true rfl)) dL_law_338 ⟨(by show _ ≤ 667787; omega), (by show _ ≤ 7098410; omega)⟩) hE.2.2.2 (fun q _ h => mE_A hE q h) (mE_A hE) (fun r uq tq H locs ht hvm hw hB hz1 hk1 hS => ?_)
      obtain ⟨rfl, rfl⟩ := hw
      have hE : mE G (lA s) s.heap ad (Sy cy ad n k v (Si cy ad n k u jN0)) H locs := mE_call hE hB ht hS
      refine lv_iload hx hb dL_law_341 (lv_at hl 0 rfl) ?_
      refine lv_sipush (v := nI 997) hx hb dL_law_343 (by decide) ?_
      refine mv_irem (z := mMod (((nI 37) * (v (200 + a9) (q - 16))) + ((nI 101) * (nI (q - 16) + nI 1)))) hx hb (by decide) rfl dL_law_346 ?_
      refine lv_icmp_eq (tgt := 352) hx hb dL_law_347 (by decide) (fun c6 => ?_) (fun c6 => ?_)
      · skip
        refine lv_iinc (v := nI (q + 1)) (lv' := [(11, .int (nI (q + 1))), (12, .int (((nI 37) * (v (200 + a9) (q - 16))) + ((nI 101) * (nI (q - 16) + nI 1)))), (10, .int (nI b9)), (9, .int (nI a9)), (8, .int (nI n)), (4, .int xv), (3, .int (nI tm)), (2, .ref (ad 4)), (1, .ref (ad 0)), (0, .ref b)]) hx hb dL_law_352 hl (k := 1) rfl (nI_add _ _) (by decide) rfl (fun ls hl => ?_)
        refine lv_goto (tgt := 259) hx hb dL_law_355 (by decide) ?_
        exact ih1 (32 - (q + 1)) (q + 1) _ _ _ (by rw [hn2]; omega) ⟨rfl, ⟨by omega, by omega⟩, hE, lv_sub hl [0, 2, 3, 4, 5, 6, 7, 8, 9] rfl⟩
      · skip
        exact absurd (by rw [show q = 16 + (q - 16) by omega, (jV_c hJ h_a9).1 (q - 16) (by omega), show 16 + (q - 16) - 16 = q - 16 by omega]; rfl) c6

set_option maxHeartbeats 8000000 in
set_option maxRecDepth 100000 in
/-- the law's proof -/
theorem s5 {p : Program} {l : Launch} {e : Env} {s : State} {m : MethodId} {below : List Frame} {meth : Method} {c : Code} {Q : State → Prop} {b : Nat} {G : va_G} {cy : Nat → ClassId} (hx : p.tables.exec = Jvm.exec) (hb : c.code = cL_law) (hml : c.maxLocals = 17) (hown : s.vm.findClass RL = some m.cls) (hts : ∀ w ∈ wsL_law, w.before #[Value.ref b] s = true) (hN : mN G cy (lA s) s) {ad : Nat → Nat} {n k : Nat} {v u : Nat → Nat → Int32} {C cs ms : Nat → Nat} {T : Nat} (hJ : jV n k v u C cs ms T) (hn0 : 1 ≤ n) {xv : Int32} {tm a9 b9 : Nat} (h_a9 : a9 < n) (h_b9 : b9 < n) {H : Heap} {locs : List Loc} {ls : Array Slot} {cells slots : Nat} (hc9 : cells + 0 ≤ 667787) (hs9 : slots + 0 ≤ 7098410) (hE : mE G (lA s) s.heap ad (Sy cy ad n k v (Si cy ad n k u jN0)) H locs) (hl : lv_has ls 17 [(10, .int (nI b9)), (9, .int (nI a9)), (8, .int (nI n)), (4, .int xv), (3, .int (nI tm)), (2, .ref (ad 4)), (1, .ref (ad 0)), (0, .ref b)]) (kk : ∀ (H : Heap) (locs : List Loc) (ls : Array Slot) (d9 : Nat), d9 < 16 → mE G (lA s) s.heap ad (Sy cy ad n k v (Si cy ad n k u jN0)) H locs → lv_has ls 17 [(11, .int (nI d9)), (10, .int (nI b9)), (9, .int (nI a9)), (8, .int (nI n)), (4, .int xv), (3, .int (nI tm)), (2, .ref (ad 4)), (1, .ref (ad 0)), (0, .ref b)] → W p l e room_1 s m #[Value.ref b] below meth c H locs cells slots Q (F0 m 431 ls [])) : W p l e room_1 s m #[Value.ref b] below meth c H locs cells slots Q (F0 m 358 ls []) := by
  have hn := hJ.1
  have hk := hJ.2.1
  have hN6 := hJ.1
  refine lv_iload hx hb dL_law_358 (lv_at hl 3 rfl) ?_
  refine lv_iconst (v := nI 2) hx hb dL_law_360 (by decide) ?_
  refine mv_ishr (z := xv >>> ((nI 2) &&& 31)) hx hb rfl dL_law_361 ?_
  refine lv_bipush (v := nI 16) hx hb dL_law_362 (by decide) ?_
  refine va_calli (va_runS (As := [.int (xv >>> ((nI 2) &&& 31)), .int (nI 16)]) (rest := []) ⟨hx, hb, hml, hown, hts⟩ (c_L_below l G cy ad (Sy cy ad n k v (Si cy ad n k u jN0)) _ (xv >>> ((nI 2) &&& 31)) 16 (by omega) (by omega)) (va_cwS 2 hts gL_law_L_below rfl rfl rfl (by decide +kernel) ⟨Nat.le_of_ble_eq_true rfl, Nat.le_of_ble_eq_true rfl⟩) (mP_S hN hE) rfl rfl hl.1 rfl (lv_room (Nat.le_of_ble_eq_true rfl)) dL_law_364 ⟨(by show _ ≤ 667787; omega), (by show _ ≤ 7098410; omega)⟩) hE.2.2.2 (fun q _ h => mE_A hE q h) (mE_A hE) (fun r uq tq H locs ht hvm hw hB hz1 hk1 hS => ?_)
  obtain ⟨rfl, rfl⟩ := hw
  have hE : mE G (lA s) s.heap ad (Sy cy ad n k v (Si cy ad n k u jN0)) H locs := mE_call hE hB ht hS
  obtain ⟨d9, hq_d9⟩ : ∃ y99, y99 = jBe (xv >>> ((nI 2) &&& 31)) 16 := ⟨_, rfl⟩
  rw [← hq_d9]
  have h_d9 : d9 < 16 := by rw [hq_d9]; exact jBe_lt _ (by omega)
  refine lv_istore (lv' := [(11, .int (nI d9)), (10, .int (nI b9)), (9, .int (nI a9)), (8, .int (nI n)), (4, .int xv), (3, .int (nI tm)), (2, .ref (ad 4)), (1, .ref (ad 0)), (0, .ref b)]) hx hb dL_law_367 hl (by decide) rfl (fun ls hl => ?_)
  refine lv_aload_n hx hb dL_law_369 rfl (lv_at hl 7 rfl) ?_
  refine lv_iload hx hb dL_law_370 (lv_at hl 0 rfl) ?_
  refine lv_aload_n hx hb dL_law_372 rfl (lv_at hl 7 rfl) ?_
  refine lv_iload hx hb dL_law_373 (lv_at hl 2 rfl) ?_
  refine lv_iload hx hb dL_law_375 (lv_at hl 0 rfl) ?_
  refine va_calli (va_runV (As := [.int (nI a9), .int (nI d9)]) (rest := [.int (nI d9), .ref (ad 0)]) ⟨hx, hb, hml, hown, hts⟩ (c_X2_thing l G cy ad n k v (Si cy ad n k u jN0) hn hk _ a9 h_a9 d9 (by omega)) (cwV 2 hts gL_law_X2_thing rfl rfl rfl (by decide +kernel) ⟨Nat.le_of_ble_eq_true rfl, Nat.le_of_ble_eq_true rfl⟩) (mP_V (r := (RX2, TX2, 5)) hN hE S_0 rfl) rfl rfl hl.1 rfl (lv_room (Nat.le_of_ble_eq_true rfl)) dL_law_377 ⟨(by show _ ≤ 667787; omega), (by show _ ≤ 7098410; omega)⟩) hE.2.2.2 (fun q _ h => mE_A hE q h) (mE_A hE) (fun r uq tq H locs ht hvm hw hB hz1 hk1 hS => ?_)
  obtain ⟨rfl, rfl⟩ := hw
  have hE : mE G (lA s) s.heap ad (Sy cy ad n k v (Si cy ad n k u jN0)) H locs := mE_call hE hB ht hS
  obtain ⟨t5, h_t5, hq_t5⟩ := jV_t hJ h_a9 h_d9
  rw [hq_t5]
  refine lv_aload_n hx hb dL_law_380 rfl (lv_at hl 7 rfl) ?_
  refine lv_iload hx hb dL_law_381 (lv_at hl 2 rfl) ?_
  refine lv_iload hx hb dL_law_383 (lv_at hl 0 rfl) ?_
  refine lv_iconst (v := nI 0) hx hb dL_law_385 (by decide) ?_
  refine va_calli (va_runV (As := [.int (nI a9), .int (nI d9), .int (nI 0)]) (rest := [.int (nI t5), .int (nI d9), .ref (ad 0)]) ⟨hx, hb, hml, hown, hts⟩ (c_X2_proof l G cy ad n k v (Si cy ad n k u jN0) hn hk _ a9 h_a9 d9 0 (by omega) (by omega)) (cwV 3 hts gL_law_X2_proof rfl rfl rfl (by decide +kernel) ⟨Nat.le_of_ble_eq_true rfl, Nat.le_of_ble_eq_true rfl⟩) (mP_V (r := (RX2, TX2, 5)) hN hE S_0 rfl) rfl rfl hl.1 rfl (lv_room (Nat.le_of_ble_eq_true rfl)) dL_law_386 ⟨(by show _ ≤ 667787; omega), (by show _ ≤ 7098410; omega)⟩) hE.2.2.2 (fun q _ h => mE_A hE q h) (mE_A hE) (fun r uq tq H locs ht hvm hw hB hz1 hk1 hS => ?_)
  obtain ⟨rfl, rfl⟩ := hw
  have hE : mE G (lA s) s.heap ad (Sy cy ad n k v (Si cy ad n k u jN0)) H locs := mE_call hE hB ht hS
  obtain ⟨r0, h_r0, hq_r0⟩ := jRange (jV_c hJ h_a9) (fun d hd => jV_t hJ h_a9 hd) (mBes_pos d9 h_d9 0 (by decide)) (mBes_lt d9 h_d9 0 (by decide))
  rw [hq_r0]
  refine lv_aload_n hx hb dL_law_389 rfl (lv_at hl 7 rfl) ?_
  refine lv_iload hx hb dL_law_390 (lv_at hl 2 rfl) ?_
  refine lv_iload hx hb dL_law_392 (lv_at hl 0 rfl) ?_
  refine lv_iconst (v := nI 1) hx hb dL_law_394 (by decide) ?_
  refine va_calli (va_runV (As := [.int (nI a9), .int (nI d9), .int (nI 1)]) (rest := [.int (nI r0), .int (nI t5), .int (nI d9), .ref (ad 0)]) ⟨hx, hb, hml, hown, hts⟩ (c_X2_proof l G cy ad n k v (Si cy ad n k u jN0) hn hk _ a9 h_a9 d9 1 (by omega) (by omega)) (cwV 3 hts gL_law_X2_proof rfl rfl rfl (by decide +kernel) ⟨Nat.le_of_ble_eq_true rfl, Nat.le_of_ble_eq_true rfl⟩) (mP_V (r := (RX2, TX2, 5)) hN hE S_0 rfl) rfl rfl hl.1 rfl (lv_room (Nat.le_of_ble_eq_true rfl)) dL_law_395 ⟨(by show _ ≤ 667787; omega), (by show _ ≤ 7098410; omega)⟩) hE.2.2.2 (fun q _ h => mE_A hE q h) (mE_A hE) (fun r uq tq H locs ht hvm hw hB hz1 hk1 hS => ?_)
  obtain ⟨rfl, rfl⟩ := hw
  have hE : mE G (lA s) s.heap ad (Sy cy ad n k v (Si cy ad n k u jN0)) H locs := mE_call hE hB ht hS
  obtain ⟨r1, h_r1, hq_r1⟩ := jRange (jV_c hJ h_a9) (fun d hd => jV_t hJ h_a9 hd) (mBes_pos d9 h_d9 1 (by decide)) (mBes_lt d9 h_d9 1 (by decide))
  rw [hq_r1]
  refine lv_aload_n hx hb dL_law_398 rfl (lv_at hl 7 rfl) ?_
  refine lv_iload hx hb dL_law_399 (lv_at hl 2 rfl) ?_
  refine lv_iload hx hb dL_law_401 (lv_at hl 0 rfl) ?_
  refine lv_iconst (v := nI 2) hx hb dL_law_403 (by decide) ?_
  refine va_calli (va_runV (As := [.int (nI a9), .int (nI d9), .int (nI 2)]) (rest := [.int (nI r1), .int (nI r0), .int (nI t5), .int (nI d9), .ref (ad 0)]) ⟨hx, hb, hml, hown, hts⟩ (c_X2_proof l G cy ad n k v (Si cy ad n k u jN0) hn hk _ a9 h_a9 d9 2 (by omega) (by omega)) (cwV 3 hts gL_law_X2_proof rfl rfl rfl (by decide +kernel) ⟨Nat.le_of_ble_eq_true rfl, Nat.le_of_ble_eq_true rfl⟩) (mP_V (r := (RX2, TX2, 5)) hN hE S_0 rfl) rfl rfl hl.1 rfl (lv_room (Nat.le_of_ble_eq_true rfl)) dL_law_404 ⟨(by show _ ≤ 667787; omega), (by show _ ≤ 7098410; omega)⟩) hE.2.2.2 (fun q _ h => mE_A hE q h) (mE_A hE) (fun r uq tq H locs ht hvm hw hB hz1 hk1 hS => ?_)
  obtain ⟨rfl, rfl⟩ := hw
  have hE : mE G (lA s) s.heap ad (Sy cy ad n k v (Si cy ad n k u jN0)) H locs := mE_call hE hB ht hS
  obtain ⟨r2, h_r2, hq_r2⟩ := jRange (jV_c hJ h_a9) (fun d hd => jV_t hJ h_a9 hd) (mBes_pos d9 h_d9 2 (by decide)) (mBes_lt d9 h_d9 2 (by decide))
  rw [hq_r2]
  refine lv_aload_n hx hb dL_law_407 rfl (lv_at hl 7 rfl) ?_
  refine lv_iload hx hb dL_law_408 (lv_at hl 2 rfl) ?_
  refine lv_iload hx hb dL_law_410 (lv_at hl 0 rfl) ?_
  refine lv_iconst (v := nI 3) hx hb dL_law_412 (by decide) ?_
  refine va_calli (va_runV (As := [.int (nI a9), .int (nI d9), .int (nI 3)]) (rest := [.int (nI r2), .int (nI r1), .int (nI r0), .int (nI t5), .int (nI d9), .ref (ad 0)]) ⟨hx, hb, hml, hown, hts⟩ (c_X2_proof l G cy ad n k v (Si cy ad n k u jN0) hn hk _ a9 h_a9 d9 3 (by omega) (by omega)) (cwV 3 hts gL_law_X2_proof rfl rfl rfl (by decide +kernel) ⟨Nat.le_of_ble_eq_true rfl, Nat.le_of_ble_eq_true rfl⟩) (mP_V (r := (RX2, TX2, 5)) hN hE S_0 rfl) rfl rfl hl.1 rfl (lv_room (Nat.le_of_ble_eq_true rfl)) dL_law_413 ⟨(by show _ ≤ 667787; omega), (by show _ ≤ 7098410; omega)⟩) hE.2.2.2 (fun q _ h => mE_A hE q h) (mE_A hE) (fun r uq tq H locs ht hvm hw hB hz1 hk1 hS => ?_)
  obtain ⟨rfl, rfl⟩ := hw
  have hE : mE G (lA s) s.heap ad (Sy cy ad n k v (Si cy ad n k u jN0)) H locs := mE_call hE hB ht hS
  obtain ⟨r3, h_r3, hq_r3⟩ := jRange (jV_c hJ h_a9) (fun d hd => jV_t hJ h_a9 hd) (mBes_pos d9 h_d9 3 (by decide)) (mBes_lt d9 h_d9 3 (by decide))
  rw [hq_r3]
  refine va_calli (va_runV (As := [.int (nI d9), .int (nI t5), .int (nI r0), .int (nI r1), .int (nI r2), .int (nI r3)]) (rest := []) ⟨hx, hb, hml, hown, hts⟩ (c_X2_comes l G cy ad n k v (Si cy ad n k u jN0) hn hk _ d9 t5 r0 r1 r2 r3 h_d9 h_t5 h_r0 h_r1 h_r2 h_r3) (cwV 6 hts gL_law_X2_comes rfl rfl rfl (by decide +kernel) ⟨Nat.le_of_ble_eq_true rfl, Nat.le_of_ble_eq_true rfl⟩) (mP_V (r := (RX2, TX2, 5)) hN hE S_0 rfl) rfl rfl hl.1 rfl (lv_room (Nat.le_of_ble_eq_true rfl)) dL_law_416 ⟨(by show _ ≤ 667787; omega), (by show _ ≤ 7098410; omega)⟩) hE.2.2.2 (fun q _ h => mE_A hE q h) (mE_A hE) (fun r uq tq H locs ht hvm hw hB hz1 hk1 hS => ?_)
  obtain ⟨rfl, rfl⟩ := hw
  have hE : mE G (lA s) s.heap ad (Sy cy ad n k v (Si cy ad n k u jN0)) H locs := mE_call hE hB ht hS
  rw [← hq_t5, ← hq_r0, ← hq_r1, ← hq_r2, ← hq_r3, jComes (jV_c hJ h_a9) h_d9]
  refine lv_aload_n hx hb dL_law_419 rfl (lv_at hl 7 rfl) ?_
  refine lv_iload hx hb dL_law_420 (lv_at hl 2 rfl) ?_
  refine lv_iconst (v := nI 0) hx hb dL_law_422 (by decide) ?_
  refine va_calli (va_runV (As := [.int (nI a9), .int (nI 0)]) (rest := [.int (v (300 + a9) 1)]) ⟨hx, hb, hml, hown, hts⟩ (c_X2_told l G cy ad n k v (Si cy ad n k u jN0) hn hk _ a9 h_a9 0 (by decide)) (cwV 2 hts gL_law_X2_told rfl rfl rfl (by decide +kernel) ⟨Nat.le_of_ble_eq_true rfl, Nat.le_of_ble_eq_true rfl⟩) (mP_V (r := (RX2, TX2, 5)) hN hE S_0 rfl) rfl rfl hl.1 rfl (lv_room (Nat.le_of_ble_eq_true rfl)) dL_law_423 ⟨(by show _ ≤ 667787; omega), (by show _ ≤ 7098410; omega)⟩) hE.2.2.2 (fun q _ h => mE_A hE q h) (mE_A hE) (fun r uq tq H locs ht hvm hw hB hz1 hk1 hS => ?_)
  obtain ⟨rfl, rfl⟩ := hw
  have hE : mE G (lA s) s.heap ad (Sy cy ad n k v (Si cy ad n k u jN0)) H locs := mE_call hE hB ht hS
  rw [show mTold v k a9 0 = v (300 + a9) 1 from rfl]
  refine lv_icmp_eq (tgt := 431) hx hb dL_law_426 (by decide) (fun c1 => ?_) (fun c1 => ?_)
  · skip
    exact kk _ _ _ d9 h_d9 hE (lv_sub hl [0, 1, 2, 3, 4, 5, 6, 7, 8] rfl)
  · skip
    exact absurd rfl c1

set_option maxHeartbeats 8000000 in
set_option maxRecDepth 100000 in
/-- the law's comparing -/
theorem s6 {p : Program} {l : Launch} {e : Env} {s : State} {m : MethodId} {below : List Frame} {meth : Method} {c : Code} {Q : State → Prop} {b : Nat} {G : va_G} {cy : Nat → ClassId} (hx : p.tables.exec = Jvm.exec) (hb : c.code = cL_law) (hml : c.maxLocals = 17) (hown : s.vm.findClass RL = some m.cls) (hts : ∀ w ∈ wsL_law, w.before #[Value.ref b] s = true) (hN : mN G cy (lA s) s) {ad : Nat → Nat} {n k : Nat} {v u : Nat → Nat → Int32} {C cs ms : Nat → Nat} {T : Nat} (hJ : jV n k v u C cs ms T) (hn0 : 1 ≤ n) {xv : Int32} {tm a9 b9 : Nat} (h_a9 : a9 < n) (h_b9 : b9 < n) {d9 : Nat} (h_d9 : d9 < 16) {H : Heap} {locs : List Loc} {ls : Array Slot} {cells slots : Nat} (hc9 : cells + 0 ≤ 667787) (hs9 : slots + 0 ≤ 7098410) (hE : mE G (lA s) s.heap ad (Sy cy ad n k v (Si cy ad n k u jN0)) H locs) (hl : lv_has ls 17 [(11, .int (nI d9)), (10, .int (nI b9)), (9, .int (nI a9)), (8, .int (nI n)), (4, .int xv), (3, .int (nI tm)), (2, .ref (ad 4)), (1, .ref (ad 0)), (0, .ref b)]) (kk : ∀ (H : Heap) (locs : List Loc) (ls : Array Slot) (z : Nat), z = mDr (mLook (v (300 + a9)) (v (300 + b9)) 15) (v (300 + a9)) (v (300 + b9)) 16 → mE G (lA s) s.heap ad (Sy cy ad n k v (Si cy ad n k u jN0)) H locs → lv_has ls 17 [(12, .int (nI z)), (11, .int (nI d9)), (10, .int (nI b9)), (9, .int (nI a9)), (8, .int (nI n)), (4, .int xv), (3, .int (nI tm)), (2, .ref (ad 4)), (1, .ref (ad 0)), (0, .ref b)] → W p l e room_1 s m #[Value.ref b] below meth c H locs cells slots Q (F0 m 529 ls [])) : W p l e room_1 s m #[Value.ref b] below meth c H locs cells slots Q (F0 m 431 ls []) := by
  have hn := hJ.1
  have hk := hJ.2.1
  have hN6 := hJ.1
  refine lv_aload_n hx hb dL_law_431 rfl (lv_at hl 7 rfl) ?_
  refine lv_iload hx hb dL_law_432 (lv_at hl 2 rfl) ?_
  refine lv_iload hx hb dL_law_434 (lv_at hl 1 rfl) ?_
  refine va_calli (va_runV (As := [.int (nI a9), .int (nI b9)]) (rest := []) ⟨hx, hb, hml, hown, hts⟩ (c_X2_differ l G cy ad n k v (Si cy ad n k u jN0) hn hk _ a9 b9 h_a9 h_b9) (cwV 2 hts gL_law_X2_differ rfl rfl rfl (by decide +kernel) ⟨Nat.le_of_ble_eq_true rfl, Nat.le_of_ble_eq_true rfl⟩) (mP_V (r := (RX2, TX2, 5)) hN hE S_0 rfl) rfl rfl hl.1 rfl (lv_room (Nat.le_of_ble_eq_true rfl)) dL_law_436 ⟨(by show _ ≤ 667787; omega), (by show _ ≤ 7098410; omega)⟩) hE.2.2.2 (fun q _ h => mE_A hE q h) (mE_A hE) (fun r uq tq H locs ht hvm hw hB hz1 hk1 hS => ?_)
  obtain ⟨rfl, rfl⟩ := hw
  have hE : mE G (lA s) s.heap ad (Sy cy ad n k v (Si cy ad n k u jN0)) H locs := mE_call hE hB ht hS
  obtain ⟨z, hz⟩ : ∃ y99, y99 = mDr (mLook (v (300 + a9)) (v (300 + b9)) 15) (v (300 + a9)) (v (300 + b9)) 16 := ⟨_, rfl⟩
  rw [← hz]
  have hz16 : z < 2 ^ 16 := by rw [hz]; exact jZ_lt v a9 b9
  refine lv_istore (lv' := [(12, .int (nI z)), (11, .int (nI d9)), (10, .int (nI b9)), (9, .int (nI a9)), (8, .int (nI n)), (4, .int xv), (3, .int (nI tm)), (2, .ref (ad 4)), (1, .ref (ad 0)), (0, .ref b)]) hx hb dL_law_439 hl (by decide) rfl (fun ls hl => ?_)
  refine lv_aload_n hx hb dL_law_441 rfl (lv_at hl 8 rfl) ?_
  refine lv_iload hx hb dL_law_442 (lv_at hl 3 rfl) ?_
  refine lv_iload hx hb dL_law_444 (lv_at hl 2 rfl) ?_
  refine va_calli (va_runV (As := [.int (nI a9), .int (nI b9)]) (rest := []) ⟨hx, hb, hml, hown, hts⟩ (c_X2_looks l G cy ad n k v (Si cy ad n k u jN0) hn hk _ a9 b9 h_a9 h_b9) (cwV 2 hts gL_law_X2_looks rfl rfl rfl (by decide +kernel) ⟨Nat.le_of_ble_eq_true rfl, Nat.le_of_ble_eq_true rfl⟩) (mP_V (r := (RX2, TX2, 5)) hN hE S_0 rfl) rfl rfl hl.1 rfl (lv_room (Nat.le_of_ble_eq_true rfl)) dL_law_446 ⟨(by show _ ≤ 667787; omega), (by show _ ≤ 7098410; omega)⟩) hE.2.2.2 (fun q _ h => mE_A hE q h) (mE_A hE) (fun r uq tq H locs ht hvm hw hB hz1 hk1 hS => ?_)
  obtain ⟨rfl, rfl⟩ := hw
  have hE : mE G (lA s) s.heap ad (Sy cy ad n k v (Si cy ad n k u jN0)) H locs := mE_call hE hB ht hS
  rw [jLk]
  obtain ⟨lk, hlk⟩ : ∃ y99, y99 = mCl (v (300 + a9)) (v (300 + b9)) 4 1 := ⟨_, rfl⟩
  rw [← hlk]
  obtain ⟨ho1, ho2⟩ := jLk_o (v (300 + a9)) (v (300 + b9))
  rw [← hlk] at ho1 ho2
  refine lv_istore (lv' := [(13, .int (nI lk)), (12, .int (nI z)), (11, .int (nI d9)), (10, .int (nI b9)), (9, .int (nI a9)), (8, .int (nI n)), (4, .int xv), (3, .int (nI tm)), (2, .ref (ad 4)), (1, .ref (ad 0)), (0, .ref b)]) hx hb dL_law_449 hl (by decide) rfl (fun ls hl => ?_)
  refine lv_iload hx hb dL_law_451 (lv_at hl 1 rfl) ?_
  refine lv_aload_n hx hb dL_law_453 rfl (lv_at hl 9 rfl) ?_
  refine lv_iload hx hb dL_law_454 (lv_at hl 3 rfl) ?_
  refine lv_iload hx hb dL_law_456 (lv_at hl 4 rfl) ?_
  refine va_calli (va_runV (As := [.int (nI b9), .int (nI a9)]) (rest := [.int (nI z)]) ⟨hx, hb, hml, hown, hts⟩ (c_X2_differ l G cy ad n k v (Si cy ad n k u jN0) hn hk _ b9 a9 h_b9 h_a9) (cwV 2 hts gL_law_X2_differ rfl rfl rfl (by decide +kernel) ⟨Nat.le_of_ble_eq_true rfl, Nat.le_of_ble_eq_true rfl⟩) (mP_V (r := (RX2, TX2, 5)) hN hE S_0 rfl) rfl rfl hl.1 rfl (lv_room (Nat.le_of_ble_eq_true rfl)) dL_law_458 ⟨(by show _ ≤ 667787; omega), (by show _ ≤ 7098410; omega)⟩) hE.2.2.2 (fun q _ h => mE_A hE q h) (mE_A hE) (fun r uq tq H locs ht hvm hw hB hz1 hk1 hS => ?_)
  obtain ⟨rfl, rfl⟩ := hw
  have hE : mE G (lA s) s.heap ad (Sy cy ad n k v (Si cy ad n k u jN0)) H locs := mE_call hE hB ht hS
  rw [jDf hJ h_a9 h_b9, ← hz]
  refine mv_ne (tgt := 527) hx hb (by omega) (by omega) dL_law_461 (by decide) (fun c1 => ?_) (fun c1 => ?_)
  · skip
    exact absurd rfl c1
  · skip
    refine lv_iload hx hb dL_law_464 (lv_at hl 0 rfl) ?_
    refine lv_aload_n hx hb dL_law_466 rfl (lv_at hl 9 rfl) ?_
    refine lv_iload hx hb dL_law_467 (lv_at hl 3 rfl) ?_
    refine lv_iload hx hb dL_law_469 (lv_at hl 4 rfl) ?_
    refine va_calli (va_runV (As := [.int (nI b9), .int (nI a9)]) (rest := [.int (nI lk)]) ⟨hx, hb, hml, hown, hts⟩ (c_X2_looks l G cy ad n k v (Si cy ad n k u jN0) hn hk _ b9 a9 h_b9 h_a9) (cwV 2 hts gL_law_X2_looks rfl rfl rfl (by decide +kernel) ⟨Nat.le_of_ble_eq_true rfl, Nat.le_of_ble_eq_true rfl⟩) (mP_V (r := (RX2, TX2, 5)) hN hE S_0 rfl) rfl rfl hl.1 rfl (lv_room (Nat.le_of_ble_eq_true rfl)) dL_law_471 ⟨(by show _ ≤ 667787; omega), (by show _ ≤ 7098410; omega)⟩) hE.2.2.2 (fun q _ h => mE_A hE q h) (mE_A hE) (fun r uq tq H locs ht hvm hw hB hz1 hk1 hS => ?_)
    obtain ⟨rfl, rfl⟩ := hw
    have hE : mE G (lA s) s.heap ad (Sy cy ad n k v (Si cy ad n k u jN0)) H locs := mE_call hE hB ht hS
    rw [jLk]
    rw [jLk_s, ← hlk]
    refine mv_ne (tgt := 527) hx hb (by omega) (by omega) dL_law_474 (by decide) (fun c2 => ?_) (fun c2 => ?_)
    · skip
      exact absurd rfl c2
    · skip
      refine lv_iload hx hb dL_law_477 (lv_at hl 1 rfl) ?_
      refine lv_if_ne (tgt := 486) hx hb dL_law_479 (by decide) (fun c3 => ?_) (fun c3 => ?_)
      · skip
        have c3 : ¬ z = 0 := fun h9 => c3 ((mz_eq (by omega)).mpr h9)
        refine lv_iconst (v := nI 0) hx hb dL_law_486 (by decide) ?_
        refine lv_aload_n hx hb dL_law_487 rfl (lv_at hl 9 rfl) ?_
        refine lv_iload hx hb dL_law_488 (lv_at hl 4 rfl) ?_
        refine lv_iconst (v := nI 0) hx hb dL_law_490 (by decide) ?_
        refine va_calli (va_runV (As := [.int (nI a9), .int (nI 0)]) (rest := [.int (nI 0)]) ⟨hx, hb, hml, hown, hts⟩ (c_X2_told l G cy ad n k v (Si cy ad n k u jN0) hn hk _ a9 h_a9 0 (by decide)) (cwV 2 hts gL_law_X2_told rfl rfl rfl (by decide +kernel) ⟨Nat.le_of_ble_eq_true rfl, Nat.le_of_ble_eq_true rfl⟩) (mP_V (r := (RX2, TX2, 5)) hN hE S_0 rfl) rfl rfl hl.1 rfl (lv_room (Nat.le_of_ble_eq_true rfl)) dL_law_491 ⟨(by show _ ≤ 667787; omega), (by show _ ≤ 7098410; omega)⟩) hE.2.2.2 (fun q _ h => mE_A hE q h) (mE_A hE) (fun r uq tq H locs ht hvm hw hB hz1 hk1 hS => ?_)
        obtain ⟨rfl, rfl⟩ := hw
        have hE : mE G (lA s) s.heap ad (Sy cy ad n k v (Si cy ad n k u jN0)) H locs := mE_call hE hB ht hS
        rw [show mTold v k a9 0 = v (300 + a9) 1 from rfl]
        refine lv_aload_n hx hb dL_law_494 rfl (lv_at hl 9 rfl) ?_
        refine lv_iload hx hb dL_law_495 (lv_at hl 3 rfl) ?_
        refine lv_iconst (v := nI 0) hx hb dL_law_497 (by decide) ?_
        refine va_calli (va_runV (As := [.int (nI b9), .int (nI 0)]) (rest := [.int (v (300 + a9) 1), .int (nI 0)]) ⟨hx, hb, hml, hown, hts⟩ (c_X2_told l G cy ad n k v (Si cy ad n k u jN0) hn hk _ b9 h_b9 0 (by decide)) (cwV 2 hts gL_law_X2_told rfl rfl rfl (by decide +kernel) ⟨Nat.le_of_ble_eq_true rfl, Nat.le_of_ble_eq_true rfl⟩) (mP_V (r := (RX2, TX2, 5)) hN hE S_0 rfl) rfl rfl hl.1 rfl (lv_room (Nat.le_of_ble_eq_true rfl)) dL_law_498 ⟨(by show _ ≤ 667787; omega), (by show _ ≤ 7098410; omega)⟩) hE.2.2.2 (fun q _ h => mE_A hE q h) (mE_A hE) (fun r uq tq H locs ht hvm hw hB hz1 hk1 hS => ?_)
        obtain ⟨rfl, rfl⟩ := hw
        have hE : mE G (lA s) s.heap ad (Sy cy ad n k v (Si cy ad n k u jN0)) H locs := mE_call hE hB ht hS
        rw [show mTold v k b9 0 = v (300 + b9) 1 from rfl]
        refine lv_icmp_ne (tgt := 508) hx hb dL_law_501 (by decide) (fun c4 => ?_) (fun c4 => ?_)
        · skip
          refine lv_iconst (v := nI 0) hx hb dL_law_508 (by decide) ?_
          refine mv_ne (tgt := 527) hx hb (by omega) (by omega) dL_law_509 (by decide) (fun c5 => ?_) (fun c5 => ?_)
          · skip
            exfalso; omega
          · skip
            refine lv_iload hx hb dL_law_512 (lv_at hl 0 rfl) ?_
            refine lv_iconst (v := nI 2) hx hb dL_law_514 (by decide) ?_
            refine mv_irem (z := nI (lk % 2)) hx hb (by decide) (pk_rem (by omega) (by omega) (by omega)) dL_law_515 ?_
            refine lv_iconst (v := nI 1) hx hb dL_law_516 (by decide) ?_
            refine mv_ne (tgt := 527) hx hb (by omega) (by omega) dL_law_517 (by decide) (fun c6 => ?_) (fun c6 => ?_)
            · skip
              exact absurd ho1 c6
            · skip
              refine lv_iload hx hb dL_law_520 (lv_at hl 0 rfl) ?_
              refine lv_bipush (v := nI 31) hx hb dL_law_522 (by decide) ?_
              refine mv_le (tgt := 529) hx hb (by omega) (by omega) dL_law_524 (by decide) (fun c7 => ?_) (fun c7 => ?_)
              · skip
                exact kk _ _ _ z hz hE (lv_sub hl [1, 2, 3, 4, 5, 6, 7, 8, 9, 10] rfl)
              · skip
                exfalso; omega
        · skip
          refine lv_iconst (v := nI 1) hx hb dL_law_504 (by decide) ?_
          refine lv_goto (tgt := 509) hx hb dL_law_505 (by decide) ?_
          refine mv_ne (tgt := 527) hx hb (by omega) (by omega) dL_law_509 (by decide) (fun c8 => ?_) (fun c8 => ?_)
          · skip
            have hz0 := jZ_0 hJ h_a9 h_b9
            rw [← hz] at hz0
            exact absurd (hz0.mpr c4) c3
          · skip
            exfalso; omega
      · skip
        have c3 := (mz_eq (by omega)).mp c3
        refine lv_iconst (v := nI 1) hx hb dL_law_482 (by decide) ?_
        refine lv_goto (tgt := 487) hx hb dL_law_483 (by decide) ?_
        refine lv_aload_n hx hb dL_law_487 rfl (lv_at hl 9 rfl) ?_
        refine lv_iload hx hb dL_law_488 (lv_at hl 4 rfl) ?_
        refine lv_iconst (v := nI 0) hx hb dL_law_490 (by decide) ?_
        refine va_calli (va_runV (As := [.int (nI a9), .int (nI 0)]) (rest := [.int (nI 1)]) ⟨hx, hb, hml, hown, hts⟩ (c_X2_told l G cy ad n k v (Si cy ad n k u jN0) hn hk _ a9 h_a9 0 (by decide)) (cwV 2 hts gL_law_X2_told rfl rfl rfl (by decide +kernel) ⟨Nat.le_of_ble_eq_true rfl, Nat.le_of_ble_eq_true rfl⟩) (mP_V (r := (RX2, TX2, 5)) hN hE S_0 rfl) rfl rfl hl.1 rfl (lv_room (Nat.le_of_ble_eq_true rfl)) dL_law_491 ⟨(by show _ ≤ 667787; omega), (by show _ ≤ 7098410; omega)⟩) hE.2.2.2 (fun q _ h => mE_A hE q h) (mE_A hE) (fun r uq tq H locs ht hvm hw hB hz1 hk1 hS => ?_)
        obtain ⟨rfl, rfl⟩ := hw
        have hE : mE G (lA s) s.heap ad (Sy cy ad n k v (Si cy ad n k u jN0)) H locs := mE_call hE hB ht hS
        rw [show mTold v k a9 0 = v (300 + a9) 1 from rfl]
        refine lv_aload_n hx hb dL_law_494 rfl (lv_at hl 9 rfl) ?_
        refine lv_iload hx hb dL_law_495 (lv_at hl 3 rfl) ?_
        refine lv_iconst (v := nI 0) hx hb dL_law_497 (by decide) ?_
        refine va_calli (va_runV (As := [.int (nI b9), .int (nI 0)]) (rest := [.int (v (300 + a9) 1), .int (nI 1)]) ⟨hx, hb, hml, hown, hts⟩ (c_X2_told l G cy ad n k v (Si cy ad n k u jN0) hn hk _ b9 h_b9 0 (by decide)) (cwV 2 hts gL_law_X2_told rfl rfl rfl (by decide +kernel) ⟨Nat.le_of_ble_eq_true rfl, Nat.le_of_ble_eq_true rfl⟩) (mP_V (r := (RX2, TX2, 5)) hN hE S_0 rfl) rfl rfl hl.1 rfl (lv_room (Nat.le_of_ble_eq_true rfl)) dL_law_498 ⟨(by show _ ≤ 667787; omega), (by show _ ≤ 7098410; omega)⟩) hE.2.2.2 (fun q _ h => mE_A hE q h) (mE_A hE) (fun r uq tq H locs ht hvm hw hB hz1 hk1 hS => ?_)
        obtain ⟨rfl, rfl⟩ := hw
        have hE : mE G (lA s) s.heap ad (Sy cy ad n k v (Si cy ad n k u jN0)) H locs := mE_call hE hB ht hS
        rw [show mTold v k b9 0 = v (300 + b9) 1 from rfl]
        refine lv_icmp_ne (tgt := 508) hx hb dL_law_501 (by decide) (fun c9 => ?_) (fun c9 => ?_)
        · skip
          refine lv_iconst (v := nI 0) hx hb dL_law_508 (by decide) ?_
          refine mv_ne (tgt := 527) hx hb (by omega) (by omega) dL_law_509 (by decide) (fun c10 => ?_) (fun c10 => ?_)
          · skip
            have hz0 := jZ_0 hJ h_a9 h_b9
            rw [← hz] at hz0
            exact absurd (hz0.mp c3) c9
          · skip
            exfalso; omega
        · skip
          refine lv_iconst (v := nI 1) hx hb dL_law_504 (by decide) ?_
          refine lv_goto (tgt := 509) hx hb dL_law_505 (by decide) ?_
          refine mv_ne (tgt := 527) hx hb (by omega) (by omega) dL_law_509 (by decide) (fun c11 => ?_) (fun c11 => ?_)
          · skip
            exfalso; omega
          · skip
            refine lv_iload hx hb dL_law_512 (lv_at hl 0 rfl) ?_
            refine lv_iconst (v := nI 2) hx hb dL_law_514 (by decide) ?_
            refine mv_irem (z := nI (lk % 2)) hx hb (by decide) (pk_rem (by omega) (by omega) (by omega)) dL_law_515 ?_
            refine lv_iconst (v := nI 1) hx hb dL_law_516 (by decide) ?_
            refine mv_ne (tgt := 527) hx hb (by omega) (by omega) dL_law_517 (by decide) (fun c12 => ?_) (fun c12 => ?_)
            · skip
              exact absurd ho1 c12
            · skip
              refine lv_iload hx hb dL_law_520 (lv_at hl 0 rfl) ?_
              refine lv_bipush (v := nI 31) hx hb dL_law_522 (by decide) ?_
              refine mv_le (tgt := 529) hx hb (by omega) (by omega) dL_law_524 (by decide) (fun c13 => ?_) (fun c13 => ?_)
              · skip
                exact kk _ _ _ z hz hE (lv_sub hl [1, 2, 3, 4, 5, 6, 7, 8, 9, 10] rfl)
              · skip
                exfalso; omega

set_option maxHeartbeats 8000000 in
set_option maxRecDepth 100000 in
/-- the law's drawers -/
theorem s7 {p : Program} {l : Launch} {e : Env} {s : State} {m : MethodId} {below : List Frame} {meth : Method} {c : Code} {Q : State → Prop} {b : Nat} {G : va_G} {cy : Nat → ClassId} (hx : p.tables.exec = Jvm.exec) (hb : c.code = cL_law) (hml : c.maxLocals = 17) (hown : s.vm.findClass RL = some m.cls) (hts : ∀ w ∈ wsL_law, w.before #[Value.ref b] s = true) (hN : mN G cy (lA s) s) {ad : Nat → Nat} {n k : Nat} {v u : Nat → Nat → Int32} {C cs ms : Nat → Nat} {T : Nat} (hJ : jV n k v u C cs ms T) (hn0 : 1 ≤ n) {xv : Int32} {tm a9 b9 : Nat} (h_a9 : a9 < n) (h_b9 : b9 < n) {d9 : Nat} (h_d9 : d9 < 16) {z : Nat} (hz : z = mDr (mLook (v (300 + a9)) (v (300 + b9)) 15) (v (300 + a9)) (v (300 + b9)) 16) {H : Heap} {locs : List Loc} {ls : Array Slot} {cells slots : Nat} (hc9 : cells + 0 ≤ 667787) (hs9 : slots + 0 ≤ 7098410) (hE : mE G (lA s) s.heap ad (Sy cy ad n k v (Si cy ad n k u jN0)) H locs) (hl : lv_has ls 17 [(12, .int (nI z)), (11, .int (nI d9)), (10, .int (nI b9)), (9, .int (nI a9)), (8, .int (nI n)), (4, .int xv), (3, .int (nI tm)), (2, .ref (ad 4)), (1, .ref (ad 0)), (0, .ref b)]) (kk : ∀ (H : Heap) (locs : List Loc) (ls : Array Slot), mE G (lA s) s.heap ad (Sy cy ad n k v (Si cy ad n k u jN0)) H locs → lv_has ls 17 [(12, .int (nI z)), (11, .int (nI d9)), (10, .int (nI b9)), (9, .int (nI a9)), (8, .int (nI n)), (4, .int xv), (3, .int (nI tm)), (2, .ref (ad 4)), (1, .ref (ad 0)), (0, .ref b)] → W p l e room_1 s m #[Value.ref b] below meth c H locs cells slots Q (F0 m 623 ls [])) : W p l e room_1 s m #[Value.ref b] below meth c H locs cells slots Q (F0 m 529 ls []) := by
  have hn := hJ.1
  have hk := hJ.2.1
  have hN6 := hJ.1
  have hz16 : z < 2 ^ 16 := by rw [hz]; exact jZ_lt v a9 b9
  refine lv_iconst (v := nI 0) hx hb dL_law_529 (by decide) ?_
  refine lv_istore (lv' := [(14, .int (nI 0)), (12, .int (nI z)), (11, .int (nI d9)), (10, .int (nI b9)), (9, .int (nI a9)), (8, .int (nI n)), (4, .int xv), (3, .int (nI tm)), (2, .ref (ad 4)), (1, .ref (ad 0)), (0, .ref b)]) hx hb dL_law_530 hl (by decide) rfl (fun ls hl => ?_)
  refine mx_loop (β := Nat) (fun n9 (d8 : Nat) H locs ls => n9 = 16 - d8 ∧ (d8 ≤ 16) ∧ mE G (lA s) s.heap ad (Sy cy ad n k v (Si cy ad n k u jN0)) H locs ∧ lv_has ls 17 [(14, .int (nI d8)), (12, .int (nI z)), (11, .int (nI d9)), (10, .int (nI b9)), (9, .int (nI a9)), (8, .int (nI n)), (4, .int xv), (3, .int (nI tm)), (2, .ref (ad 4)), (1, .ref (ad 0)), (0, .ref b)]) ?_ (16 - 0) (0) _ _ _ ⟨rfl, (by omega), hE, lv_sub hl [0, 1, 2, 3, 4, 5, 6, 7, 8, 9, 10] rfl⟩
  intro n9 d8 H locs ls hI ih1
  obtain ⟨hn2, hd16, hE, hl⟩ := hI
  have hE : mE G (lA s) s.heap ad (Sy cy ad n k v (Si cy ad n k u jN0)) H locs := hE
  have hl : lv_has ls 17 [(14, .int (nI d8)), (12, .int (nI z)), (11, .int (nI d9)), (10, .int (nI b9)), (9, .int (nI a9)), (8, .int (nI n)), (4, .int xv), (3, .int (nI tm)), (2, .ref (ad 4)), (1, .ref (ad 0)), (0, .ref b)] := hl
  refine lv_iload hx hb dL_law_532 (lv_at hl 0 rfl) ?_
  refine lv_bipush (v := nI 16) hx hb dL_law_534 (by decide) ?_
  refine mv_ge (tgt := 623) hx hb (by omega) (by omega) dL_law_536 (by decide) (fun c3 => ?_) (fun c3 => ?_)
  · skip
    exact kk _ _ _ hE (lv_sub hl [1, 2, 3, 4, 5, 6, 7, 8, 9, 10] rfl)
  · skip
    have h_d8 : d8 < 16 := by omega
    refine lv_iconst (v := nI 1) hx hb dL_law_539 (by decide) ?_
    refine lv_istore (lv' := [(15, .int (nI 1)), (14, .int (nI d8)), (12, .int (nI z)), (11, .int (nI d9)), (10, .int (nI b9)), (9, .int (nI a9)), (8, .int (nI n)), (4, .int xv), (3, .int (nI tm)), (2, .ref (ad 4)), (1, .ref (ad 0)), (0, .ref b)]) hx hb dL_law_540 hl (by decide) rfl (fun ls hl => ?_)
    refine lv_bipush (v := nI 16) hx hb dL_law_542 (by decide) ?_
    refine lv_iload hx hb dL_law_544 (lv_at hl 1 rfl) ?_
    refine mv_iadd (z := nI (16 + d8)) hx hb (nI_add _ _) dL_law_546 ?_
    refine lv_istore (lv' := [(16, .int (nI (16 + d8))), (15, .int (nI 1)), (14, .int (nI d8)), (12, .int (nI z)), (11, .int (nI d9)), (10, .int (nI b9)), (9, .int (nI a9)), (8, .int (nI n)), (4, .int xv), (3, .int (nI tm)), (2, .ref (ad 4)), (1, .ref (ad 0)), (0, .ref b)]) hx hb dL_law_547 hl (by decide) rfl (fun ls hl => ?_)
    have e8 : nI 1 = mb (jDo (v (300 + a9)) (v (300 + b9)) d8 0 = true) := (mb_t rfl).symm
    have e7 : 16 + d8 = (16 + d8) / 2 ^ 0 := by rw [Nat.pow_zero, Nat.div_one]
    rw [e8, e7] at hl
    refine mx_loop (β := Nat) (fun n9 (t : Nat) H locs ls => n9 = 5 - t ∧ (t ≤ 5) ∧ mE G (lA s) s.heap ad (Sy cy ad n k v (Si cy ad n k u jN0)) H locs ∧ lv_has ls 17 [(16, .int (nI ((16 + d8) / 2 ^ t))), (15, .int (mb (jDo (v (300 + a9)) (v (300 + b9)) d8 t = true))), (14, .int (nI d8)), (12, .int (nI z)), (11, .int (nI d9)), (10, .int (nI b9)), (9, .int (nI a9)), (8, .int (nI n)), (4, .int xv), (3, .int (nI tm)), (2, .ref (ad 4)), (1, .ref (ad 0)), (0, .ref b)]) ?_ (5 - 0) (0) _ _ _ ⟨rfl, (by omega), hE, lv_sub hl [0, 1, 2, 3, 4, 5, 6, 7, 8, 9, 10, 11, 12] rfl⟩
    intro n9 t H locs ls hI ih4
    obtain ⟨hn5, ht5, hE, hl⟩ := hI
    obtain ⟨hp1, hp2, hp3⟩ := jUp_1 d8 h_d8 t ht5
    have hE : mE G (lA s) s.heap ad (Sy cy ad n k v (Si cy ad n k u jN0)) H locs := hE
    have hl : lv_has ls 17 [(16, .int (nI ((16 + d8) / 2 ^ t))), (15, .int (mb (jDo (v (300 + a9)) (v (300 + b9)) d8 t = true))), (14, .int (nI d8)), (12, .int (nI z)), (11, .int (nI d9)), (10, .int (nI b9)), (9, .int (nI a9)), (8, .int (nI n)), (4, .int xv), (3, .int (nI tm)), (2, .ref (ad 4)), (1, .ref (ad 0)), (0, .ref b)] := hl
    refine lv_iload hx hb dL_law_549 (lv_at hl 0 rfl) ?_
    refine lv_if_le (tgt := 594) hx hb dL_law_551 (by decide) (fun c6 => ?_) (fun c6 => ?_)
    · skip
      have c6 := (mz_le (by omega)).mp c6
      have ht9 : t = 5 := by rcases Nat.lt_or_ge t 5 with h9 | h9; (have := hp2 (by omega); omega); omega
      subst ht9
      have hzb := jZ_b hJ h_a9 h_b9 h_d8
      rw [← hz] at hzb
      refine lv_iload hx hb dL_law_594 (lv_at hl 1 rfl) ?_
      refine lv_iload hx hb dL_law_596 (lv_at hl 3 rfl) ?_
      refine lv_iload hx hb dL_law_598 (lv_at hl 2 rfl) ?_
      refine mv_ishr (z := nI (z / 2 ^ d8)) hx hb (pk_shrN (by omega) _ _ (mu_l _ (by omega))) dL_law_600 ?_
      refine lv_iconst (v := nI 1) hx hb dL_law_601 (by decide) ?_
      refine mv_iand (z := nI (z / 2 ^ d8 % 2)) hx hb (pk_andN (by have := Nat.div_le_self z (2 ^ d8); omega) 1 (by decide)) dL_law_602 ?_
      refine lv_iconst (v := nI 1) hx hb dL_law_603 (by decide) ?_
      refine mv_ne (tgt := 611) hx hb (by omega) (by omega) dL_law_604 (by decide) (fun c7 => ?_) (fun c7 => ?_)
      · skip
        refine lv_iconst (v := nI 0) hx hb dL_law_611 (by decide) ?_
        refine lv_icmp_eq (tgt := 617) hx hb dL_law_612 (by decide) (fun c8 => ?_) (fun c8 => ?_)
        · skip
          refine lv_iinc (v := nI (d8 + 1)) (lv' := [(14, .int (nI (d8 + 1))), (16, .int (nI ((16 + d8) / 2 ^ 5))), (15, .int (mb (jDo (v (300 + a9)) (v (300 + b9)) d8 5 = true))), (12, .int (nI z)), (11, .int (nI d9)), (10, .int (nI b9)), (9, .int (nI a9)), (8, .int (nI n)), (4, .int xv), (3, .int (nI tm)), (2, .ref (ad 4)), (1, .ref (ad 0)), (0, .ref b)]) hx hb dL_law_617 hl (k := 2) rfl (nI_add _ _) (by decide) rfl (fun ls hl => ?_)
          refine lv_goto (tgt := 532) hx hb dL_law_620 (by decide) ?_
          exact ih1 (16 - (d8 + 1)) (d8 + 1) _ _ _ (by rw [hn2]; omega) ⟨rfl, (by omega), hE, lv_sub hl [0, 3, 4, 5, 6, 7, 8, 9, 10, 11, 12] rfl⟩
        · skip
          exact absurd (mb_f (fun h9 => c7 (hzb.mp h9))) c8
      · skip
        refine lv_iconst (v := nI 1) hx hb dL_law_607 (by decide) ?_
        refine lv_goto (tgt := 612) hx hb dL_law_608 (by decide) ?_
        refine lv_icmp_eq (tgt := 617) hx hb dL_law_612 (by decide) (fun c9 => ?_) (fun c9 => ?_)
        · skip
          refine lv_iinc (v := nI (d8 + 1)) (lv' := [(14, .int (nI (d8 + 1))), (16, .int (nI ((16 + d8) / 2 ^ 5))), (15, .int (mb (jDo (v (300 + a9)) (v (300 + b9)) d8 5 = true))), (12, .int (nI z)), (11, .int (nI d9)), (10, .int (nI b9)), (9, .int (nI a9)), (8, .int (nI n)), (4, .int xv), (3, .int (nI tm)), (2, .ref (ad 4)), (1, .ref (ad 0)), (0, .ref b)]) hx hb dL_law_617 hl (k := 2) rfl (nI_add _ _) (by decide) rfl (fun ls hl => ?_)
          refine lv_goto (tgt := 532) hx hb dL_law_620 (by decide) ?_
          exact ih1 (16 - (d8 + 1)) (d8 + 1) _ _ _ (by rw [hn2]; omega) ⟨rfl, (by omega), hE, lv_sub hl [0, 3, 4, 5, 6, 7, 8, 9, 10, 11, 12] rfl⟩
        · skip
          exact absurd (mb_t (hzb.mpr c7)) c9
    · skip
      have c6 : ¬ ((16 + d8) / 2 ^ t) = 0 := fun h9 => c6 ((mz_le (by omega)).mpr h9)
      have ht4 : t ≤ 4 := by rcases Nat.lt_or_ge t 5 with h9 | h9; exact Nat.le_of_lt_succ h9; exact absurd (hp3 (by omega)) c6
      have hp4 := hp2 ht4
      refine lv_iload hx hb dL_law_554 (lv_at hl 1 rfl) ?_
      refine lv_if_eq (tgt := 582) hx hb dL_law_556 (by decide) (fun c10 => ?_) (fun c10 => ?_)
      · skip
        have c10 := mb_0.mp c10
        refine lv_iconst (v := nI 0) hx hb dL_law_582 (by decide) ?_
        refine lv_istore (lv' := [(15, .int (nI 0)), (16, .int (nI ((16 + d8) / 2 ^ t))), (14, .int (nI d8)), (12, .int (nI z)), (11, .int (nI d9)), (10, .int (nI b9)), (9, .int (nI a9)), (8, .int (nI n)), (4, .int xv), (3, .int (nI tm)), (2, .ref (ad 4)), (1, .ref (ad 0)), (0, .ref b)]) hx hb dL_law_583 hl (by decide) rfl (fun ls hl => ?_)
        have e8 : nI 0 = mb (jDo (v (300 + a9)) (v (300 + b9)) d8 (t + 1) = true) := (mb_f (fun h9 => c10 (jDo_l h9))).symm
        rw [e8] at hl
        refine lv_iload hx hb dL_law_585 (lv_at hl 1 rfl) ?_
        refine lv_iconst (v := nI 2) hx hb dL_law_587 (by decide) ?_
        refine mv_idiv (z := nI ((16 + d8) / 2 ^ (t + 1))) hx hb (by decide) (by rw [pk_div (by omega) (by omega) (by omega), Nat.div_div_eq_div_mul, ← Nat.pow_succ]) dL_law_588 ?_
        refine lv_istore (lv' := [(16, .int (nI ((16 + d8) / 2 ^ (t + 1)))), (15, .int (mb (jDo (v (300 + a9)) (v (300 + b9)) d8 (t + 1) = true))), (14, .int (nI d8)), (12, .int (nI z)), (11, .int (nI d9)), (10, .int (nI b9)), (9, .int (nI a9)), (8, .int (nI n)), (4, .int xv), (3, .int (nI tm)), (2, .ref (ad 4)), (1, .ref (ad 0)), (0, .ref b)]) hx hb dL_law_589 hl (by decide) rfl (fun ls hl => ?_)
        refine lv_goto (tgt := 549) hx hb dL_law_591 (by decide) ?_
        exact ih4 (5 - (t + 1)) (t + 1) _ _ _ (by rw [hn5]; omega) ⟨rfl, (by omega), hE, lv_sub hl [0, 1, 2, 3, 4, 5, 6, 7, 8, 9, 10, 11, 12] rfl⟩
      · skip
        have c10 := Classical.not_not.mp (fun h9 => c10 (mb_0.mpr h9))
        refine lv_aload_n hx hb dL_law_559 rfl (lv_at hl 11 rfl) ?_
        refine lv_iload hx hb dL_law_560 (lv_at hl 6 rfl) ?_
        refine lv_iload hx hb dL_law_562 (lv_at hl 0 rfl) ?_
        refine va_calli (va_runV (As := [.int (nI a9), .int (nI ((16 + d8) / 2 ^ t))]) (rest := []) ⟨hx, hb, hml, hown, hts⟩ (c_X2_sum l G cy ad n k v (Si cy ad n k u jN0) hn hk _ a9 h_a9 ((16 + d8) / 2 ^ t) (by omega) (by omega)) (cwV 2 hts gL_law_X2_sum rfl rfl rfl (by decide +kernel) ⟨Nat.le_of_ble_eq_true rfl, Nat.le_of_ble_eq_true rfl⟩) (mP_V (r := (RX2, TX2, 5)) hN hE S_0 rfl) rfl rfl hl.1 rfl (lv_room (Nat.le_of_ble_eq_true rfl)) dL_law_564 ⟨(by show _ ≤ 667787; omega), (by show _ ≤ 7098410; omega)⟩) hE.2.2.2 (fun q _ h => mE_A hE q h) (mE_A hE) (fun r uq tq H locs ht hvm hw hB hz1 hk1 hS => ?_)
        obtain ⟨rfl, rfl⟩ := hw
        have hE : mE G (lA s) s.heap ad (Sy cy ad n k v (Si cy ad n k u jN0)) H locs := mE_call hE hB ht hS
        refine lv_aload_n hx hb dL_law_567 rfl (lv_at hl 11 rfl) ?_
        refine lv_iload hx hb dL_law_568 (lv_at hl 5 rfl) ?_
        refine lv_iload hx hb dL_law_570 (lv_at hl 0 rfl) ?_
        refine va_calli (va_runV (As := [.int (nI b9), .int (nI ((16 + d8) / 2 ^ t))]) (rest := [.int (v (300 + a9) ((16 + d8) / 2 ^ t))]) ⟨hx, hb, hml, hown, hts⟩ (c_X2_sum l G cy ad n k v (Si cy ad n k u jN0) hn hk _ b9 h_b9 ((16 + d8) / 2 ^ t) (by omega) (by omega)) (cwV 2 hts gL_law_X2_sum rfl rfl rfl (by decide +kernel) ⟨Nat.le_of_ble_eq_true rfl, Nat.le_of_ble_eq_true rfl⟩) (mP_V (r := (RX2, TX2, 5)) hN hE S_0 rfl) rfl rfl hl.1 rfl (lv_room (Nat.le_of_ble_eq_true rfl)) dL_law_572 ⟨(by show _ ≤ 667787; omega), (by show _ ≤ 7098410; omega)⟩) hE.2.2.2 (fun q _ h => mE_A hE q h) (mE_A hE) (fun r uq tq H locs ht hvm hw hB hz1 hk1 hS => ?_)
        obtain ⟨rfl, rfl⟩ := hw
        have hE : mE G (lA s) s.heap ad (Sy cy ad n k v (Si cy ad n k u jN0)) H locs := mE_call hE hB ht hS
        refine lv_icmp_eq (tgt := 582) hx hb dL_law_575 (by decide) (fun c11 => ?_) (fun c11 => ?_)
        · skip
          refine lv_iconst (v := nI 0) hx hb dL_law_582 (by decide) ?_
          refine lv_istore (lv' := [(15, .int (nI 0)), (16, .int (nI ((16 + d8) / 2 ^ t))), (14, .int (nI d8)), (12, .int (nI z)), (11, .int (nI d9)), (10, .int (nI b9)), (9, .int (nI a9)), (8, .int (nI n)), (4, .int xv), (3, .int (nI tm)), (2, .ref (ad 4)), (1, .ref (ad 0)), (0, .ref b)]) hx hb dL_law_583 hl (by decide) rfl (fun ls hl => ?_)
          have e8 : nI 0 = mb (jDo (v (300 + a9)) (v (300 + b9)) d8 (t + 1) = true) := (mb_f (fun h9 => jDo_r h9 c11)).symm
          rw [e8] at hl
          refine lv_iload hx hb dL_law_585 (lv_at hl 1 rfl) ?_
          refine lv_iconst (v := nI 2) hx hb dL_law_587 (by decide) ?_
          refine mv_idiv (z := nI ((16 + d8) / 2 ^ (t + 1))) hx hb (by decide) (by rw [pk_div (by omega) (by omega) (by omega), Nat.div_div_eq_div_mul, ← Nat.pow_succ]) dL_law_588 ?_
          refine lv_istore (lv' := [(16, .int (nI ((16 + d8) / 2 ^ (t + 1)))), (15, .int (mb (jDo (v (300 + a9)) (v (300 + b9)) d8 (t + 1) = true))), (14, .int (nI d8)), (12, .int (nI z)), (11, .int (nI d9)), (10, .int (nI b9)), (9, .int (nI a9)), (8, .int (nI n)), (4, .int xv), (3, .int (nI tm)), (2, .ref (ad 4)), (1, .ref (ad 0)), (0, .ref b)]) hx hb dL_law_589 hl (by decide) rfl (fun ls hl => ?_)
          refine lv_goto (tgt := 549) hx hb dL_law_591 (by decide) ?_
          exact ih4 (5 - (t + 1)) (t + 1) _ _ _ (by rw [hn5]; omega) ⟨rfl, (by omega), hE, lv_sub hl [0, 1, 2, 3, 4, 5, 6, 7, 8, 9, 10, 11, 12] rfl⟩
        · skip
          refine lv_iconst (v := nI 1) hx hb dL_law_578 (by decide) ?_
          refine lv_goto (tgt := 583) hx hb dL_law_579 (by decide) ?_
          refine lv_istore (lv' := [(15, .int (nI 1)), (16, .int (nI ((16 + d8) / 2 ^ t))), (14, .int (nI d8)), (12, .int (nI z)), (11, .int (nI d9)), (10, .int (nI b9)), (9, .int (nI a9)), (8, .int (nI n)), (4, .int xv), (3, .int (nI tm)), (2, .ref (ad 4)), (1, .ref (ad 0)), (0, .ref b)]) hx hb dL_law_583 hl (by decide) rfl (fun ls hl => ?_)
          have e8 : nI 1 = mb (jDo (v (300 + a9)) (v (300 + b9)) d8 (t + 1) = true) := (mb_t (jDo_n c10 c11)).symm
          rw [e8] at hl
          refine lv_iload hx hb dL_law_585 (lv_at hl 1 rfl) ?_
          refine lv_iconst (v := nI 2) hx hb dL_law_587 (by decide) ?_
          refine mv_idiv (z := nI ((16 + d8) / 2 ^ (t + 1))) hx hb (by decide) (by rw [pk_div (by omega) (by omega) (by omega), Nat.div_div_eq_div_mul, ← Nat.pow_succ]) dL_law_588 ?_
          refine lv_istore (lv' := [(16, .int (nI ((16 + d8) / 2 ^ (t + 1)))), (15, .int (mb (jDo (v (300 + a9)) (v (300 + b9)) d8 (t + 1) = true))), (14, .int (nI d8)), (12, .int (nI z)), (11, .int (nI d9)), (10, .int (nI b9)), (9, .int (nI a9)), (8, .int (nI n)), (4, .int xv), (3, .int (nI tm)), (2, .ref (ad 4)), (1, .ref (ad 0)), (0, .ref b)]) hx hb dL_law_589 hl (by decide) rfl (fun ls hl => ?_)
          refine lv_goto (tgt := 549) hx hb dL_law_591 (by decide) ?_
          exact ih4 (5 - (t + 1)) (t + 1) _ _ _ (by rw [hn5]; omega) ⟨rfl, (by omega), hE, lv_sub hl [0, 1, 2, 3, 4, 5, 6, 7, 8, 9, 10, 11, 12] rfl⟩
