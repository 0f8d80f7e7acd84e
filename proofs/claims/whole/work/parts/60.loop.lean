set_option maxHeartbeats 8000000 in
set_option maxRecDepth 100000 in
/-- the law's loop -/
theorem law_loop {p : Program} {l : Launch} {e : Env} {s : State} {m : MethodId} {below : List Frame} {meth : Method} {c : Code} {b L : Nat} {xs : Nat → Int32} (hst : l.stackTraces = false) (hx : p.tables.exec = Jvm.exec) (hb : c.code = cL_law) (hr : meth.sig.returnType = ret) (hml : c.maxLocals = 9) (hown : s.vm.findClass RL = some m.cls) (hts : ∀ w ∈ wsL_law, w.before #[Value.ref b] s = true) (hX : va_X b L xs s s.heap) (hbl : b < s.heap.size) (hlocks : meth.locks = false) (hL : L ≤ 3584) {G : va_G} {cy : Nat → ClassId} (hN : mN G cy (lA s) s) :
    ∀ (r t : Nat), L + 1 ≤ 7 * t + r → 7 * t ≤ L → ∀ (ad : Nat → Nat) (n k : Nat) (v : Nat → Nat → Int32) (o : Nat → Int64) (H : Heap) (locs : List Loc) (ls : Array Slot), (∃ cs, mInv n k v cs) → mE G (lA s) s.heap ad (Sy cy ad n k v o) H locs → lv_has ls 9 [(4, .int (nI (7 * t))), (3, .ref (ad 12)), (2, .ref (ad 4)), (1, .ref (ad 0)), (0, .ref b)] → W p l e room_1 s m #[Value.ref b] below meth c H locs (14 + 4 * t) (400 + 60 * t) (lw_Z below #[Value.ref b] s) (F0 m 23 ls []) := by
  intro r
  induction r using Nat.strongRecOn with
  | ind r ih =>
  intro t hr9 ht9 ad n k v o H locs ls hI hE hl
  have tail : ∀ (ad' : Nat → Nat) (n' k' : Nat) (v2 : Nat → Nat → Int32) (o' : Nat → Int64) (H' : Heap) (locs' : List Loc) (ls' : Array Slot) (cells slots : Nat), 7 * t + 7 ≤ L → cells ≤ 14 + 4 * t + 4 → slots ≤ 400 + 60 * t + 60 → (∃ cs, mInv n' k' v2 cs) → mE G (lA s) s.heap ad' (Sy cy ad' n' k' v2 o') H' locs' → lv_has ls' 9 [(4, .int (nI (7 * t))), (3, .ref (ad' 12)), (2, .ref (ad' 4)), (1, .ref (ad' 0)), (0, .ref b)] → W p l e room_1 s m #[Value.ref b] below meth c H' locs' cells slots (lw_Z below #[Value.ref b] s) (F0 m 1316 ls' []) := by
    intro ad' n' k' v2 o' H' locs' ls' cells slots hlt hc hs hI' hE' hl'
    refine lv_iinc (v := nI (7 * t + 7)) (lv' := [(4, .int (nI (7 * t + 7))), (3, .ref (ad' 12)), (2, .ref (ad' 4)), (1, .ref (ad' 0)), (0, .ref b)]) hx hb dL_law_1316 hl' (k := 0) rfl (nI_add _ _) (by decide) rfl (fun ls hl => ?_)
    refine lv_goto (tgt := 23) hx hb dL_law_1319 (by decide) ?_
    refine W.widen (k := 14 + 4 * (t + 1)) (n := 400 + 60 * (t + 1)) (by omega) (by omega) ?_
    exact ih (r - 7) (by omega) (t + 1) (by omega) (by omega) ad' n' k' v2 o' H' locs' ls hI' hE' (by rw [show 7 * (t + 1) = 7 * t + 7 by omega]; exact hl)
  refine lv_iload hx hb dL_law_23 (lv_at hl 0 rfl) ?_
  refine lv_aload_n hx hb dL_law_25 rfl (lv_at hl 4 rfl) ?_
  refine mx_slen hx hb hX hbl hE dL_law_26 ?_
  refine lv_bipush (v := nI 7) hx hb dL_law_27 (by decide) ?_
  refine lv_isub hx hb dL_law_29 ?_
  refine lv_icmp_gt (tgt := 1322) hx hb dL_law_30 (by decide) (fun c1 => ?_) (fun c1 => ?_)
  · refine lv_iconst (v := 1) hx hb dL_law_1322 (by decide) ?_
    refine va_forget (fun q hq => hE.2.2.2.2.2 q hq) ?_
    refine W.widen (k := 601024) (n := 7293034) (by omega) (by omega) ?_
    exact lw_ret (d0 := s.drawn) (Drawn.sameBut.refl s.drawn lw_cs) hx hb hr hlocks dL_law_1323
  have hlt : 7 * t + 7 ≤ L := by
    rcases Nat.lt_or_ge L (7 * t + 7) with h9 | h9
    · refine absurd ?_ c1
      show nI L - nI 7 < nI (7 * t)
      rw [Int32.lt_iff_toInt_lt, pk_sub_toInt (by omega) (by decide), nI_toInt (by omega)]
      omega
    · exact h9
  obtain ⟨cs, hI⟩ := hI
  refine lv_aload_n hx hb dL_law_33 rfl (lv_at hl 4 rfl) ?_
  refine lv_iload hx hb dL_law_34 (lv_at hl 0 rfl) ?_
  refine mx_sld hx hb hX hbl hE (j := 7 * t) rfl (by omega) hL dL_law_36 ?_
  refine lv_bipush (v := nI 31) hx hb dL_law_37 (by decide) ?_
  refine lv_iand hx hb dL_law_39 ?_
  rw [pk_and (xs (7 * t)) 5 (by decide)]
  have hy : (xs (7 * t)).toBitVec.toNat % 2 ^ 5 < 32 := Nat.mod_lt _ (by decide)
  generalize (xs (7 * t)).toBitVec.toNat % 2 ^ 5 = y at hy ⊢
  have hend : ∀ (H' : Heap), 7 * t + 7 ≤ L := fun _ => hlt
  rcases (show y = 0 ∨ y = 1 ∨ y = 2 ∨ y = 3 ∨ y = 4 ∨ y = 5 ∨ y = 6 ∨ y = 7 ∨ y = 8 ∨ y = 9 ∨ y = 10 ∨ y = 11 ∨ y = 12 ∨ y = 13 ∨ y = 14 ∨ y = 15 ∨ y = 16 ∨ y = 17 ∨ 18 ≤ y by omega) with rfl | rfl | rfl | rfl | rfl | rfl | rfl | rfl | rfl | rfl | rfl | rfl | rfl | rfl | rfl | rfl | rfl | rfl | hy9
  · refine lv_tableIn (off := 88) (tgt := 128) hx hb dL_law_40 (by decide) (by decide) rfl (by decide) ?_
    obtain ⟨mc, ms, hmc, hms, hLc⟩ := ok_come l hst G cy ad n k v o cs hI H.size
    exact st_come hx hb hml hown hts hX hbl hL hN hlt (by omega) (by omega) hE hl hmc hms hLc (fun ad' n' k' v2 o' H' locs' ls' hI' hE' hl' => tail ad' n' k' v2 o' H' locs' ls' _ _ hlt (by omega) (by omega) hI' hE' hl')
  · refine lv_tableIn (off := 132) (tgt := 172) hx hb dL_law_40 (by decide) (by decide) rfl (by decide) ?_
    obtain ⟨mc, ms, hmc, hms, hLc⟩ := ok_put l hst G cy ad n k v o cs hI H.size (xs (7 * t + 1)) (xs (7 * t + 2)) (xs (7 * t + 3))
    exact st_put hx hb hml hown hts hX hbl hL hN hlt (by omega) (by omega) hE hl hmc hms hLc (fun ad' n' k' v2 o' H' locs' ls' hI' hE' hl' => tail ad' n' k' v2 o' H' locs' ls' _ _ hlt (by omega) (by omega) hI' hE' hl')
  · refine lv_tableIn (off := 212) (tgt := 252) hx hb dL_law_40 (by decide) (by decide) rfl (by decide) ?_
    obtain ⟨mc, ms, hmc, hms, hLc⟩ := ok_swap l hst G cy ad n k v o cs hI H.size (xs (7 * t + 1)) (xs (7 * t + 2)) (xs (7 * t + 3))
    exact st_swap hx hb hml hown hts hX hbl hL hN hlt (by omega) (by omega) hE hl hmc hms hLc (fun ad' n' k' v2 o' H' locs' ls' hI' hE' hl' => tail ad' n' k' v2 o' H' locs' ls' _ _ hlt (by omega) (by omega) hI' hE' hl')
  · refine lv_tableIn (off := 292) (tgt := 332) hx hb dL_law_40 (by decide) (by decide) rfl (by decide) ?_
    obtain ⟨mc, ms, hmc, hms, hLc⟩ := ok_sum l hst G cy ad n k v o cs hI H.size (xs (7 * t + 1)) (xs (7 * t + 2))
    exact st_sum hx hb hml hown hts hX hbl hL hN hlt (by omega) (by omega) hE hl hmc hms hLc (fun ad' n' k' v2 o' H' locs' ls' hI' hE' hl' => tail ad' n' k' v2 o' H' locs' ls' _ _ hlt (by omega) (by omega) hI' hE' hl')
  · refine lv_tableIn (off := 360) (tgt := 400) hx hb dL_law_40 (by decide) (by decide) rfl (by decide) ?_
    obtain ⟨mc, ms, hmc, hms, hLc⟩ := ok_told l hst G cy ad n k v o cs hI H.size (xs (7 * t + 1)) (xs (7 * t + 2))
    exact st_told hx hb hml hown hts hX hbl hL hN hlt (by omega) (by omega) hE hl hmc hms hLc (fun ad' n' k' v2 o' H' locs' ls' hI' hE' hl' => tail ad' n' k' v2 o' H' locs' ls' _ _ hlt (by omega) (by omega) hI' hE' hl')
  · refine lv_tableIn (off := 428) (tgt := 468) hx hb dL_law_40 (by decide) (by decide) rfl (by decide) ?_
    obtain ⟨mc, ms, hmc, hms, hLc⟩ := ok_thing l hst G cy ad n k v o cs hI H.size (xs (7 * t + 1)) (xs (7 * t + 2))
    exact st_thing hx hb hml hown hts hX hbl hL hN hlt (by omega) (by omega) hE hl hmc hms hLc (fun ad' n' k' v2 o' H' locs' ls' hI' hE' hl' => tail ad' n' k' v2 o' H' locs' ls' _ _ hlt (by omega) (by omega) hI' hE' hl')
  · refine lv_tableIn (off := 496) (tgt := 536) hx hb dL_law_40 (by decide) (by decide) rfl (by decide) ?_
    obtain ⟨mc, ms, hmc, hms, hLc⟩ := ok_seal l hst G cy ad n k v o cs hI H.size (xs (7 * t + 1))
    exact st_seal hx hb hml hown hts hX hbl hL hN hlt (by omega) (by omega) hE hl hmc hms hLc (fun ad' n' k' v2 o' H' locs' ls' hI' hE' hl' => tail ad' n' k' v2 o' H' locs' ls' _ _ hlt (by omega) (by omega) hI' hE' hl')
  · refine lv_tableIn (off := 552) (tgt := 592) hx hb dL_law_40 (by decide) (by decide) rfl (by decide) ?_
    obtain ⟨mc, ms, hmc, hms, hLc⟩ := ok_about l hst G cy ad n k v o cs hI H.size (xs (7 * t + 1)) (xs (7 * t + 2))
    exact st_about hx hb hml hown hts hX hbl hL hN hlt (by omega) (by omega) hE hl hmc hms hLc (fun ad' n' k' v2 o' H' locs' ls' hI' hE' hl' => tail ad' n' k' v2 o' H' locs' ls' _ _ hlt (by omega) (by omega) hI' hE' hl')
  · refine lv_tableIn (off := 620) (tgt := 660) hx hb dL_law_40 (by decide) (by decide) rfl (by decide) ?_
    obtain ⟨mc, ms, hmc, hms, hLc⟩ := ok_proof l hst G cy ad n k v o cs hI H.size (xs (7 * t + 1)) (xs (7 * t + 2)) (xs (7 * t + 3))
    exact st_proof hx hb hml hown hts hX hbl hL hN hlt (by omega) (by omega) hE hl hmc hms hLc (fun ad' n' k' v2 o' H' locs' ls' hI' hE' hl' => tail ad' n' k' v2 o' H' locs' ls' _ _ hlt (by omega) (by omega) hI' hE' hl')
  · refine lv_tableIn (off := 700) (tgt := 740) hx hb dL_law_40 (by decide) (by decide) rfl (by decide) ?_
    obtain ⟨mc, ms, hmc, hms, hLc⟩ := ok_comes l hst G cy ad n k v o cs hI H.size (xs (7 * t + 1)) (xs (7 * t + 2)) (xs (7 * t + 3)) (xs (7 * t + 4)) (xs (7 * t + 5)) (xs (7 * t + 6))
    exact st_comes hx hb hml hown hts hX hbl hL hN hlt (by omega) (by omega) hE hl hmc hms hLc (fun ad' n' k' v2 o' H' locs' ls' hI' hE' hl' => tail ad' n' k' v2 o' H' locs' ls' _ _ hlt (by omega) (by omega) hI' hE' hl')
  · refine lv_tableIn (off := 818) (tgt := 858) hx hb dL_law_40 (by decide) (by decide) rfl (by decide) ?_
    obtain ⟨mc, ms, hmc, hms, hLc⟩ := ok_proves l hst G cy ad n k v o cs hI H.size (xs (7 * t + 1)) (xs (7 * t + 2)) (xs (7 * t + 3))
    exact st_proves hx hb hml hown hts hX hbl hL hN hlt (by omega) (by omega) hE hl hmc hms hLc (fun ad' n' k' v2 o' H' locs' ls' hI' hE' hl' => tail ad' n' k' v2 o' H' locs' ls' _ _ hlt (by omega) (by omega) hI' hE' hl')
  · refine lv_tableIn (off := 905) (tgt := 945) hx hb dL_law_40 (by decide) (by decide) rfl (by decide) ?_
    obtain ⟨mc, ms, hmc, hms, hLc⟩ := ok_differ l hst G cy ad n k v o cs hI H.size (xs (7 * t + 1)) (xs (7 * t + 2))
    exact st_differ hx hb hml hown hts hX hbl hL hN hlt (by omega) (by omega) hE hl hmc hms hLc (fun ad' n' k' v2 o' H' locs' ls' hI' hE' hl' => tail ad' n' k' v2 o' H' locs' ls' _ _ hlt (by omega) (by omega) hI' hE' hl')
  · refine lv_tableIn (off := 973) (tgt := 1013) hx hb dL_law_40 (by decide) (by decide) rfl (by decide) ?_
    obtain ⟨mc, ms, hmc, hms, hLc⟩ := ok_looks l hst G cy ad n k v o cs hI H.size (xs (7 * t + 1)) (xs (7 * t + 2))
    exact st_looks hx hb hml hown hts hX hbl hL hN hlt (by omega) (by omega) hE hl hmc hms hLc (fun ad' n' k' v2 o' H' locs' ls' hI' hE' hl' => tail ad' n' k' v2 o' H' locs' ls' _ _ hlt (by omega) (by omega) hI' hE' hl')
  · refine lv_tableIn (off := 1041) (tgt := 1081) hx hb dL_law_40 (by decide) (by decide) rfl (by decide) ?_
    obtain ⟨mc, ms, hmc, hms, hLc⟩ := ok_mend l hst G cy ad n k v o cs hI H.size (xs (7 * t + 1)) (xs (7 * t + 2))
    exact st_mend hx hb hml hown hts hX hbl hL hN hlt (by omega) (by omega) hE hl hmc hms hLc (fun ad' n' k' v2 o' H' locs' ls' hI' hE' hl' => tail ad' n' k' v2 o' H' locs' ls' _ _ hlt (by omega) (by omega) hI' hE' hl')
  · refine lv_tableIn (off := 1109) (tgt := 1149) hx hb dL_law_40 (by decide) (by decide) rfl (by decide) ?_
    obtain ⟨mc, ms, hmc, hms, hLc⟩ := ok_swapped l hst G cy ad n k v o cs hI H.size (xs (7 * t + 1))
    exact st_swapped hx hb hml hown hts hX hbl hL hN hlt (by omega) (by omega) hE hl hmc hms hLc (fun ad' n' k' v2 o' H' locs' ls' hI' hE' hl' => tail ad' n' k' v2 o' H' locs' ls' _ _ hlt (by omega) (by omega) hI' hE' hl')
  · refine lv_tableIn (off := 1165) (tgt := 1205) hx hb dL_law_40 (by decide) (by decide) rfl (by decide) ?_
    obtain ⟨mc, ms, hmc, hms, hLc⟩ := ok_count l hst G cy ad n k v o cs hI H.size (xs (7 * t + 1))
    exact st_count hx hb hml hown hts hX hbl hL hN hlt (by omega) (by omega) hE hl hmc hms hLc (fun ad' n' k' v2 o' H' locs' ls' hI' hE' hl' => tail ad' n' k' v2 o' H' locs' ls' _ _ hlt (by omega) (by omega) hI' hE' hl')
  · refine lv_tableIn (off := 1221) (tgt := 1261) hx hb dL_law_40 (by decide) (by decide) rfl (by decide) ?_
    exact st_mean hx hb hml hown hts hX hbl hL hN hlt (by omega) (by omega) hE hl hI (fun ad' n' k' v2 o' H' locs' ls' hI' hE' hl' => tail ad' n' k' v2 o' H' locs' ls' _ _ hlt (by omega) (by omega) hI' hE' hl')
  · refine lv_tableIn (off := 1262) (tgt := 1302) hx hb dL_law_40 (by decide) (by decide) rfl (by decide) ?_
    exact st_digest hx hb hml hown hts hX hbl hL hN hlt (by omega) (by omega) hE hl hI (fun ad' n' k' v2 o' H' locs' ls' hI' hE' hl' => tail ad' n' k' v2 o' H' locs' ls' _ _ hlt (by omega) (by omega) hI' hE' hl')
  · refine lv_tableOut (tgt := 1316) hx hb dL_law_40 (Or.inr (by rw [nI_toInt (by omega)]; omega)) (by decide) ?_
    exact tail ad n k v o H locs ls _ _ hlt (by omega) (by omega) ⟨cs, hI⟩ hE hl
