set_option maxHeartbeats 8000000 in
set_option maxRecDepth 100000 in
/-- the law's mending -/
theorem s8 {p : Program} {l : Launch} {e : Env} {s : State} {m : MethodId} {below : List Frame} {meth : Method} {c : Code} {Q : State → Prop} {b : Nat} {G : va_G} {cy : Nat → ClassId} (hx : p.tables.exec = Jvm.exec) (hb : c.code = cL_law) (hml : c.maxLocals = 17) (hown : s.vm.findClass RL = some m.cls) (hts : ∀ w ∈ wsL_law, w.before #[Value.ref b] s = true) (hN : mN G cy (lA s) s) {ad : Nat → Nat} {n k : Nat} {v u : Nat → Nat → Int32} {C cs ms : Nat → Nat} {T : Nat} (hJ : jV n k v u C cs ms T) (hn0 : 1 ≤ n) {xv : Int32} {tm a9 b9 d9 z : Nat} (h_a9 : a9 < n) (h_b9 : b9 < n) (h_d9 : d9 < 16) (hz : z = mDr (mLook (v (300 + a9)) (v (300 + b9)) 15) (v (300 + a9)) (v (300 + b9)) 16) (htm : tm < 20) {H : Heap} {locs : List Loc} {ls : Array Slot} {cells slots : Nat} (hc9 : cells + 0 ≤ 667787) (hs9 : slots + 0 ≤ 7098410) (hE : mE G (lA s) s.heap ad (Sy cy ad n k v (Si cy ad n k u jN0)) H locs) (hl : lv_has ls 17 [(12, .int (nI z)), (11, .int (nI d9)), (10, .int (nI b9)), (9, .int (nI a9)), (8, .int (nI n)), (4, .int xv), (3, .int (nI tm)), (2, .ref (ad 4)), (1, .ref (ad 0)), (0, .ref b)]) (kk : ∀ (H : Heap) (locs : List Loc) (ls : Array Slot) (v' u' : Nat → Nat → Int32) (C' : Nat → Nat), jV n k v' u' C' cs ms (T + 16) → mE G (lA s) s.heap ad (Sy cy ad n k v' (Si cy ad n k u' jN0)) H locs → lv_has ls 17 [(11, .int (nI d9)), (9, .int (nI a9)), (4, .int xv), (3, .int (nI tm)), (2, .ref (ad 4)), (1, .ref (ad 0)), (0, .ref b)] → W p l e room_1 s m #[Value.ref b] below meth c H locs cells slots Q (F0 m 738 ls [])) : W p l e room_1 s m #[Value.ref b] below meth c H locs cells slots Q (F0 m 623 ls []) := by
  have hn := hJ.1
  have hk := hJ.2.1
  have hN6 := hJ.1
  have hz16 : z < 2 ^ 16 := by rw [hz]; exact jZ_lt v a9 b9
  refine lv_iload_n hx hb dL_law_623 rfl (lv_at hl 6 rfl) ?_
  refine lv_iconst (v := nI 3) hx hb dL_law_624 (by decide) ?_
  refine mv_irem (z := nI (tm % 3)) hx hb (by decide) (pk_rem (by omega) (by omega) (by omega)) dL_law_625 ?_
  refine lv_iconst (v := nI 2) hx hb dL_law_626 (by decide) ?_
  refine mv_ne (tgt := 738) hx hb (by omega) (by omega) dL_law_627 (by decide) (fun c1 => ?_) (fun c1 => ?_)
  · skip
    exact kk _ _ _ v u C (jV_T hJ (by omega)) hE (lv_sub hl [1, 3, 5, 6, 7, 8, 9] rfl)
  · skip
    refine lv_aload_n hx hb dL_law_630 rfl (lv_at hl 8 rfl) ?_
    refine lv_iload hx hb dL_law_631 (lv_at hl 3 rfl) ?_
    refine lv_iload hx hb dL_law_633 (lv_at hl 2 rfl) ?_
    have hcon := c_X2_mend l G cy ad n k v (Si cy ad n k u jN0) hn hk H.size a9 b9 h_a9 h_b9
    rw [← hz] at hcon
    have hmen : nI (jMen u a9 b9 z 16) = nI (jBs z 16) := by rw [hz, ← jMen_ans hJ h_a9 h_b9]; exact jBc (jZ_lt v a9 b9)
    have hbs := jBs_le z 16
    refine va_calli (va_runV (As := [.int (nI a9), .int (nI b9)]) (rest := []) ⟨hx, hb, hml, hown, hts⟩ (hcon) (cwV 2 hts gL_law_X2_mend rfl rfl rfl (by decide +kernel) ⟨Nat.le_of_ble_eq_true rfl, Nat.le_of_ble_eq_true rfl⟩) (mP_V (r := (RX2, TX2, 5)) hN hE S_0 rfl) rfl rfl hl.1 rfl (lv_room (Nat.le_of_ble_eq_true rfl)) dL_law_635 ⟨(by show _ ≤ 667787; omega), (by show _ ≤ 7098410; omega)⟩) hE.2.2.2 (fun q _ h => mE_A hE q h) (mE_A hE) (fun r uq tq H locs ht hvm hw hB hz1 hk1 hS => ?_)
    obtain ⟨rfl, rfl⟩ := hw
    have hE : mE G (lA s) s.heap ad (Sy cy ad n k (mMend v a9 b9 z 16) (Si cy ad n k u jN0)) H locs := mE_call hE hB ht hS
    rw [jBc hz16]
    refine lv_istore (lv' := [(14, .int (nI (jBs z 16))), (12, .int (nI z)), (11, .int (nI d9)), (10, .int (nI b9)), (9, .int (nI a9)), (8, .int (nI n)), (4, .int xv), (3, .int (nI tm)), (2, .ref (ad 4)), (1, .ref (ad 0)), (0, .ref b)]) hx hb dL_law_638 hl (by decide) rfl (fun ls hl => ?_)
    refine lv_iload hx hb dL_law_640 (lv_at hl 0 rfl) ?_
    refine lv_aload_n hx hb dL_law_642 rfl (lv_at hl 8 rfl) ?_
    refine lv_iload hx hb dL_law_643 (lv_at hl 4 rfl) ?_
    refine lv_iload hx hb dL_law_645 (lv_at hl 3 rfl) ?_
    refine va_calli (va_runV (As := [.int (nI a9), .int (nI b9)]) (rest := [.int (nI (jBs z 16))]) ⟨hx, hb, hml, hown, hts⟩ (b_X3_mend l G cy ad n k (mMend v a9 b9 z 16) n k u jN0 hn hk _ a9 b9 z h_a9 h_b9 (hz.trans (jZ_eq hJ h_a9 h_b9))) (cwV 2 hts gL_law_X3_mend rfl rfl rfl (by decide +kernel) ⟨Nat.le_of_ble_eq_true rfl, Nat.le_of_ble_eq_true rfl⟩) (mP_V (r := (RX3, TX3, 3)) hN hE ((S_r (by omega) (by omega)).trans (Q_4)) rfl) rfl rfl hl.1 rfl (lv_room (Nat.le_of_ble_eq_true rfl)) dL_law_647 ⟨(by show _ ≤ 667787; omega), (by show _ ≤ 7098410; omega)⟩) hE.2.2.2 (fun q _ h => mE_A hE q h) (mE_A hE) (fun r uq tq H locs ht hvm hw hB hz1 hk1 hS => ?_)
    obtain ⟨rfl, rfl⟩ := hw
    have hE : mE G (lA s) s.heap ad (Sy cy ad n k (mMend v a9 b9 z 16) (Si cy ad n k (jMend u a9 b9 z 16) jN0)) H locs := mE_call hE hB ht hS
    rw [hmen]
    refine mv_eq (tgt := 655) hx hb (by omega) (by omega) dL_law_650 (by decide) (fun c2 => ?_) (fun c2 => ?_)
    · skip
      obtain ⟨C2, hJ2, -⟩ := jV_mend hJ h_a9 h_b9 z 16 (Nat.le_refl _)
      have hmd : ∀ x, x < 16 → z / 2 ^ x % 2 = 1 → mMend v a9 b9 z 16 (200 + b9) x = mMend v a9 b9 z 16 (200 + a9) x := jMended v (by omega) (by omega) 16
      obtain ⟨v2, hv2⟩ : ∃ y99, y99 = mMend v a9 b9 z 16 := ⟨_, rfl⟩
      obtain ⟨u2, hu2⟩ : ∃ y99, y99 = jMend u a9 b9 z 16 := ⟨_, rfl⟩
      rw [← hv2] at hE hJ2 hmd
      rw [← hu2] at hE hJ2
      refine lv_iconst (v := nI 0) hx hb dL_law_655 (by decide) ?_
      refine lv_istore (lv' := [(15, .int (nI 0)), (14, .int (nI (jBs z 16))), (12, .int (nI z)), (11, .int (nI d9)), (10, .int (nI b9)), (9, .int (nI a9)), (8, .int (nI n)), (4, .int xv), (3, .int (nI tm)), (2, .ref (ad 4)), (1, .ref (ad 0)), (0, .ref b)]) hx hb dL_law_656 hl (by decide) rfl (fun ls hl => ?_)
      refine mx_loop (β := Nat) (fun n9 (d8 : Nat) H locs ls => n9 = 16 - d8 ∧ (d8 ≤ 16) ∧ mE G (lA s) s.heap ad (Sy cy ad n k v2 (Si cy ad n k u2 jN0)) H locs ∧ lv_has ls 17 [(15, .int (nI d8)), (14, .int (nI (jBs z 16))), (12, .int (nI z)), (11, .int (nI d9)), (10, .int (nI b9)), (9, .int (nI a9)), (8, .int (nI n)), (4, .int xv), (3, .int (nI tm)), (2, .ref (ad 4)), (1, .ref (ad 0)), (0, .ref b)]) ?_ (16 - 0) (0) _ _ _ ⟨rfl, (by omega), hE, lv_sub hl [0, 1, 2, 3, 4, 5, 6, 7, 8, 9, 10, 11] rfl⟩
      intro n9 d8 H locs ls hI ih3
      obtain ⟨hn4, hd16, hE, hl⟩ := hI
      have hE : mE G (lA s) s.heap ad (Sy cy ad n k v2 (Si cy ad n k u2 jN0)) H locs := hE
      have hl : lv_has ls 17 [(15, .int (nI d8)), (14, .int (nI (jBs z 16))), (12, .int (nI z)), (11, .int (nI d9)), (10, .int (nI b9)), (9, .int (nI a9)), (8, .int (nI n)), (4, .int xv), (3, .int (nI tm)), (2, .ref (ad 4)), (1, .ref (ad 0)), (0, .ref b)] := hl
      refine lv_iload hx hb dL_law_658 (lv_at hl 0 rfl) ?_
      refine lv_bipush (v := nI 16) hx hb dL_law_660 (by decide) ?_
      refine mv_ge (tgt := 703) hx hb (by omega) (by omega) dL_law_662 (by decide) (fun c5 => ?_) (fun c5 => ?_)
      · skip
        refine lv_iconst (v := nI 0) hx hb dL_law_703 (by decide) ?_
        refine lv_istore (lv' := [(15, .int (nI 0)), (14, .int (nI (jBs z 16))), (12, .int (nI z)), (11, .int (nI d9)), (10, .int (nI b9)), (9, .int (nI a9)), (8, .int (nI n)), (4, .int xv), (3, .int (nI tm)), (2, .ref (ad 4)), (1, .ref (ad 0)), (0, .ref b)]) hx hb dL_law_704 hl (by decide) rfl (fun ls hl => ?_)
        refine mx_loop (β := Nat) (fun n9 (d8 : Nat) H locs ls => n9 = 16 - d8 ∧ (d8 ≤ 16) ∧ mE G (lA s) s.heap ad (Sy cy ad n k v2 (Si cy ad n k u2 jN0)) H locs ∧ lv_has ls 17 [(15, .int (nI d8)), (14, .int (nI (jBs z 16 - jBs z d8))), (12, .int (nI z)), (11, .int (nI d9)), (10, .int (nI b9)), (9, .int (nI a9)), (8, .int (nI n)), (4, .int xv), (3, .int (nI tm)), (2, .ref (ad 4)), (1, .ref (ad 0)), (0, .ref b)]) ?_ (16 - 0) (0) _ _ _ ⟨rfl, (by omega), hE, lv_sub hl [0, 1, 2, 3, 4, 5, 6, 7, 8, 9, 10, 11] rfl⟩
        intro n9 d8 H locs ls hI ih6
        obtain ⟨hn7, hd16, hE, hl⟩ := hI
        have hE : mE G (lA s) s.heap ad (Sy cy ad n k v2 (Si cy ad n k u2 jN0)) H locs := hE
        have hl : lv_has ls 17 [(15, .int (nI d8)), (14, .int (nI (jBs z 16 - jBs z d8))), (12, .int (nI z)), (11, .int (nI d9)), (10, .int (nI b9)), (9, .int (nI a9)), (8, .int (nI n)), (4, .int xv), (3, .int (nI tm)), (2, .ref (ad 4)), (1, .ref (ad 0)), (0, .ref b)] := hl
        refine lv_iload hx hb dL_law_706 (lv_at hl 0 rfl) ?_
        refine lv_bipush (v := nI 16) hx hb dL_law_708 (by decide) ?_
        refine mv_ge (tgt := 731) hx hb (by omega) (by omega) dL_law_710 (by decide) (fun c8 => ?_) (fun c8 => ?_)
        · skip
          rw [show d8 = 16 by omega] at hl
          refine lv_iload hx hb dL_law_731 (lv_at hl 1 rfl) ?_
          refine lv_if_eq (tgt := 738) hx hb dL_law_733 (by decide) (fun c9 => ?_) (fun c9 => ?_)
          · skip
            have c9 := (mz_eq (by omega)).mp c9
            exact kk _ _ _ v2 u2 C2 hJ2 hE (lv_sub hl [3, 5, 7, 8, 9, 10, 11] rfl)
          · skip
            have c9 : ¬ (jBs z 16 - jBs z 16) = 0 := fun h9 => c9 ((mz_eq (by omega)).mpr h9)
            exfalso; omega
        · skip
          have h_d8 : d8 < 16 := by omega
          refine lv_iload hx hb dL_law_713 (lv_at hl 1 rfl) ?_
          refine lv_iload hx hb dL_law_715 (lv_at hl 2 rfl) ?_
          refine lv_iload hx hb dL_law_717 (lv_at hl 0 rfl) ?_
          refine mv_ishr (z := nI (z / 2 ^ d8)) hx hb (pk_shrN (by omega) _ _ (mu_l _ (by omega))) dL_law_719 ?_
          refine lv_iconst (v := nI 1) hx hb dL_law_720 (by decide) ?_
          refine mv_iand (z := nI (z / 2 ^ d8 % 2)) hx hb (pk_andN (by have := Nat.div_le_self z (2 ^ d8); omega) 1 (by decide)) dL_law_721 ?_
          refine mv_isub (z := nI (jBs z 16 - jBs z (d8 + 1))) hx hb (by have h9 := jBs_16 z h_d8; rw [pk_sub (by omega), Nat.sub_sub]; rfl) dL_law_722 ?_
          refine lv_istore (lv' := [(14, .int (nI (jBs z 16 - jBs z (d8 + 1)))), (15, .int (nI d8)), (12, .int (nI z)), (11, .int (nI d9)), (10, .int (nI b9)), (9, .int (nI a9)), (8, .int (nI n)), (4, .int xv), (3, .int (nI tm)), (2, .ref (ad 4)), (1, .ref (ad 0)), (0, .ref b)]) hx hb dL_law_723 hl (by decide) rfl (fun ls hl => ?_)
          refine lv_iinc (v := nI (d8 + 1)) (lv' := [(15, .int (nI (d8 + 1))), (14, .int (nI (jBs z 16 - jBs z (d8 + 1)))), (12, .int (nI z)), (11, .int (nI d9)), (10, .int (nI b9)), (9, .int (nI a9)), (8, .int (nI n)), (4, .int xv), (3, .int (nI tm)), (2, .ref (ad 4)), (1, .ref (ad 0)), (0, .ref b)]) hx hb dL_law_725 hl (k := 1) rfl (nI_add _ _) (by decide) rfl (fun ls hl => ?_)
          refine lv_goto (tgt := 706) hx hb dL_law_728 (by decide) ?_
          exact ih6 (16 - (d8 + 1)) (d8 + 1) _ _ _ (by rw [hn7]; omega) ⟨rfl, (by omega), hE, lv_sub hl [0, 1, 2, 3, 4, 5, 6, 7, 8, 9, 10, 11] rfl⟩
      · skip
        have h_d8 : d8 < 16 := by omega
        refine lv_iload hx hb dL_law_665 (lv_at hl 2 rfl) ?_
        refine lv_iload hx hb dL_law_667 (lv_at hl 0 rfl) ?_
        refine mv_ishr (z := nI (z / 2 ^ d8)) hx hb (pk_shrN (by omega) _ _ (mu_l _ (by omega))) dL_law_669 ?_
        refine lv_iconst (v := nI 1) hx hb dL_law_670 (by decide) ?_
        refine mv_iand (z := nI (z / 2 ^ d8 % 2)) hx hb (pk_andN (by have := Nat.div_le_self z (2 ^ d8); omega) 1 (by decide)) dL_law_671 ?_
        refine lv_iconst (v := nI 1) hx hb dL_law_672 (by decide) ?_
        refine mv_ne (tgt := 697) hx hb (by omega) (by omega) dL_law_673 (by decide) (fun c10 => ?_) (fun c10 => ?_)
        · skip
          refine lv_iinc (v := nI (d8 + 1)) (lv' := [(15, .int (nI (d8 + 1))), (14, .int (nI (jBs z 16))), (12, .int (nI z)), (11, .int (nI d9)), (10, .int (nI b9)), (9, .int (nI a9)), (8, .int (nI n)), (4, .int xv), (3, .int (nI tm)), (2, .ref (ad 4)), (1, .ref (ad 0)), (0, .ref b)]) hx hb dL_law_697 hl (k := 0) rfl (nI_add _ _) (by decide) rfl (fun ls hl => ?_)
          refine lv_goto (tgt := 658) hx hb dL_law_700 (by decide) ?_
          exact ih3 (16 - (d8 + 1)) (d8 + 1) _ _ _ (by rw [hn4]; omega) ⟨rfl, (by omega), hE, lv_sub hl [0, 1, 2, 3, 4, 5, 6, 7, 8, 9, 10, 11] rfl⟩
        · skip
          refine lv_aload_n hx hb dL_law_676 rfl (lv_at hl 10 rfl) ?_
          refine lv_iload hx hb dL_law_677 (lv_at hl 4 rfl) ?_
          refine lv_iload hx hb dL_law_679 (lv_at hl 0 rfl) ?_
          refine va_calli (va_runV (As := [.int (nI b9), .int (nI d8)]) (rest := []) ⟨hx, hb, hml, hown, hts⟩ (c_X2_thing l G cy ad n k v2 (Si cy ad n k u2 jN0) hn hk _ b9 h_b9 d8 (by omega)) (cwV 2 hts gL_law_X2_thing rfl rfl rfl (by decide +kernel) ⟨Nat.le_of_ble_eq_true rfl, Nat.le_of_ble_eq_true rfl⟩) (mP_V (r := (RX2, TX2, 5)) hN hE S_0 rfl) rfl rfl hl.1 rfl (lv_room (Nat.le_of_ble_eq_true rfl)) dL_law_681 ⟨(by show _ ≤ 667787; omega), (by show _ ≤ 7098410; omega)⟩) hE.2.2.2 (fun q _ h => mE_A hE q h) (mE_A hE) (fun r uq tq H locs ht hvm hw hB hz1 hk1 hS => ?_)
          obtain ⟨rfl, rfl⟩ := hw
          have hE : mE G (lA s) s.heap ad (Sy cy ad n k v2 (Si cy ad n k u2 jN0)) H locs := mE_call hE hB ht hS
          refine lv_aload_n hx hb dL_law_684 rfl (lv_at hl 10 rfl) ?_
          refine lv_iload hx hb dL_law_685 (lv_at hl 5 rfl) ?_
          refine lv_iload hx hb dL_law_687 (lv_at hl 0 rfl) ?_
          refine va_calli (va_runV (As := [.int (nI a9), .int (nI d8)]) (rest := [.int (v2 (200 + b9) d8)]) ⟨hx, hb, hml, hown, hts⟩ (c_X2_thing l G cy ad n k v2 (Si cy ad n k u2 jN0) hn hk _ a9 h_a9 d8 (by omega)) (cwV 2 hts gL_law_X2_thing rfl rfl rfl (by decide +kernel) ⟨Nat.le_of_ble_eq_true rfl, Nat.le_of_ble_eq_true rfl⟩) (mP_V (r := (RX2, TX2, 5)) hN hE S_0 rfl) rfl rfl hl.1 rfl (lv_room (Nat.le_of_ble_eq_true rfl)) dL_law_689 ⟨(by show _ ≤ 667787; omega), (by show _ ≤ 7098410; omega)⟩) hE.2.2.2 (fun q _ h => mE_A hE q h) (mE_A hE) (fun r uq tq H locs ht hvm hw hB hz1 hk1 hS => ?_)
          obtain ⟨rfl, rfl⟩ := hw
          have hE : mE G (lA s) s.heap ad (Sy cy ad n k v2 (Si cy ad n k u2 jN0)) H locs := mE_call hE hB ht hS
          refine lv_icmp_eq (tgt := 697) hx hb dL_law_692 (by decide) (fun c11 => ?_) (fun c11 => ?_)
          · skip
            refine lv_iinc (v := nI (d8 + 1)) (lv' := [(15, .int (nI (d8 + 1))), (14, .int (nI (jBs z 16))), (12, .int (nI z)), (11, .int (nI d9)), (10, .int (nI b9)), (9, .int (nI a9)), (8, .int (nI n)), (4, .int xv), (3, .int (nI tm)), (2, .ref (ad 4)), (1, .ref (ad 0)), (0, .ref b)]) hx hb dL_law_697 hl (k := 0) rfl (nI_add _ _) (by decide) rfl (fun ls hl => ?_)
            refine lv_goto (tgt := 658) hx hb dL_law_700 (by decide) ?_
            exact ih3 (16 - (d8 + 1)) (d8 + 1) _ _ _ (by rw [hn4]; omega) ⟨rfl, (by omega), hE, lv_sub hl [0, 1, 2, 3, 4, 5, 6, 7, 8, 9, 10, 11] rfl⟩
          · skip
            exact absurd (hmd d8 h_d8 c10) c11
    · skip
      exact absurd rfl c2

set_option maxHeartbeats 8000000 in
set_option maxRecDepth 100000 in
/-- the law's seals -/
theorem s9 {p : Program} {l : Launch} {e : Env} {s : State} {m : MethodId} {below : List Frame} {meth : Method} {c : Code} {Q : State → Prop} {b : Nat} {G : va_G} {cy : Nat → ClassId} (hx : p.tables.exec = Jvm.exec) (hb : c.code = cL_law) (hml : c.maxLocals = 17) (hown : s.vm.findClass RL = some m.cls) (hts : ∀ w ∈ wsL_law, w.before #[Value.ref b] s = true) (hN : mN G cy (lA s) s) {ad : Nat → Nat} {n k : Nat} {v u : Nat → Nat → Int32} {C cs ms : Nat → Nat} {T : Nat} (hJ : jV n k v u C cs ms T) (hn0 : 1 ≤ n) {xv : Int32} {tm a9 d9 : Nat} (h_d9 : d9 < 16) (hT : T ≤ 100000) {H : Heap} {locs : List Loc} {ls : Array Slot} {cells slots : Nat} (hc9 : cells + 0 ≤ 667787) (hs9 : slots + 0 ≤ 7098410) (hE : mE G (lA s) s.heap ad (Sy cy ad n k v (Si cy ad n k u jN0)) H locs) (hl : lv_has ls 17 [(11, .int (nI d9)), (9, .int (nI a9)), (4, .int xv), (3, .int (nI tm)), (2, .ref (ad 4)), (1, .ref (ad 0)), (0, .ref b)]) (kk : ∀ (H : Heap) (locs : List Loc) (ls : Array Slot) (v' : Nat → Nat → Int32), jV n k v' u C cs ms T → mE G (lA s) s.heap ad (Sy cy ad n k v' (Si cy ad n k u jN0)) H locs → lv_has ls 17 [(4, .int xv), (3, .int (nI tm)), (2, .ref (ad 4)), (1, .ref (ad 0)), (0, .ref b)] → W p l e room_1 s m #[Value.ref b] below meth c H locs cells slots Q (F0 m 843 ls [])) : W p l e room_1 s m #[Value.ref b] below meth c H locs cells slots Q (F0 m 738 ls []) := by
  have hn := hJ.1
  have hk := hJ.2.1
  have hN6 := hJ.1
  refine lv_iconst (v := nI 0) hx hb dL_law_738 (by decide) ?_
  refine lv_istore (lv' := [(14, .int (nI 0)), (11, .int (nI d9)), (9, .int (nI a9)), (4, .int xv), (3, .int (nI tm)), (2, .ref (ad 4)), (1, .ref (ad 0)), (0, .ref b)]) hx hb dL_law_739 hl (by decide) rfl (fun ls hl => ?_)
  refine mx_loop (β := Nat × (Nat → Nat → Int32)) (fun n9 (bb9 : Nat × (Nat → Nat → Int32)) H locs ls => (fun (j9 : Nat) (v9 : Nat → Nat → Int32) => n9 = k - j9 ∧ (j9 ≤ k ∧ jV n k v9 u C cs ms T) ∧ mE G (lA s) s.heap ad (Sy cy ad n k v9 (Si cy ad n k u jN0)) H locs ∧ lv_has ls 17 [(14, .int (nI j9)), (11, .int (nI d9)), (9, .int (nI a9)), (4, .int xv), (3, .int (nI tm)), (2, .ref (ad 4)), (1, .ref (ad 0)), (0, .ref b)]) (bb9.1) (bb9.2)) ?_ (k - 0) (0, v) _ _ _ ⟨rfl, ⟨by omega, hJ⟩, hE, lv_sub hl [0, 1, 2, 3, 4, 5, 6, 7] rfl⟩
  intro n9 bb9 H locs ls hI ih1
  obtain ⟨j9, v9⟩ := bb9
  obtain ⟨hn2, ⟨hj9, hJ9⟩, hE, hl⟩ := hI
  have hJ : jV n k v9 u C cs ms T := hJ9
  have hE : mE G (lA s) s.heap ad (Sy cy ad n k v9 (Si cy ad n k u jN0)) H locs := hE
  have hl : lv_has ls 17 [(14, .int (nI j9)), (11, .int (nI d9)), (9, .int (nI a9)), (4, .int xv), (3, .int (nI tm)), (2, .ref (ad 4)), (1, .ref (ad 0)), (0, .ref b)] := hl
  refine lv_iload hx hb dL_law_741 (lv_at hl 0 rfl) ?_
  refine lv_aload_n hx hb dL_law_743 rfl (lv_at hl 6 rfl) ?_
  refine lv_iconst (v := nI 1) hx hb dL_law_744 (by decide) ?_
  refine va_calli (va_runV (As := [.int (nI 1)]) (rest := [.int (nI j9)]) ⟨hx, hb, hml, hown, hts⟩ (c_X2_count l G cy ad n k v9 (Si cy ad n k u jN0) hn hk _ 1 (by decide)) (cwV 1 hts gL_law_X2_count rfl rfl rfl (by decide +kernel) ⟨Nat.le_of_ble_eq_true rfl, Nat.le_of_ble_eq_true rfl⟩) (mP_V (r := (RX2, TX2, 5)) hN hE S_0 rfl) rfl rfl hl.1 rfl (lv_room (Nat.le_of_ble_eq_true rfl)) dL_law_745 ⟨(by show _ ≤ 667787; omega), (by show _ ≤ 7098410; omega)⟩) hE.2.2.2 (fun q _ h => mE_A hE q h) (mE_A hE) (fun r uq tq H locs ht hvm hw hB hz1 hk1 hS => ?_)
  obtain ⟨rfl, rfl⟩ := hw
  have hE : mE G (lA s) s.heap ad (Sy cy ad n k v9 (Si cy ad n k u jN0)) H locs := mE_call hE hB ht hS
  rw [show mCount v9 n k 1 = nI k from rfl]
  refine mv_ge (tgt := 843) hx hb (by omega) (by omega) dL_law_748 (by decide) (fun c3 => ?_) (fun c3 => ?_)
  · skip
    exact kk _ _ _ v9 hJ hE (lv_sub hl [3, 4, 5, 6, 7] rfl)
  · skip
    have h_j9 : j9 < k := by omega
    have h_cs_j9 := jV_cs hJ h_j9
    refine lv_aload_n hx hb dL_law_751 rfl (lv_at hl 6 rfl) ?_
    refine lv_iload hx hb dL_law_752 (lv_at hl 0 rfl) ?_
    refine lv_iconst (v := nI 0) hx hb dL_law_754 (by decide) ?_
    refine va_calli (va_runV (As := [.int (nI j9), .int (nI 0)]) (rest := []) ⟨hx, hb, hml, hown, hts⟩ (c_X2_about l G cy ad n k v9 (Si cy ad n k u jN0) hn hk _ j9 h_j9 0 (by decide) (cs j9) (jV_cs hJ h_j9) (jV_0 hJ h_j9)) (cwV 2 hts gL_law_X2_about rfl rfl rfl (by decide +kernel) ⟨Nat.le_of_ble_eq_true rfl, Nat.le_of_ble_eq_true rfl⟩) (mP_V (r := (RX2, TX2, 5)) hN hE S_0 rfl) rfl rfl hl.1 rfl (lv_room (Nat.le_of_ble_eq_true rfl)) dL_law_755 ⟨(by show _ ≤ 667787; omega), (by show _ ≤ 7098410; omega)⟩) hE.2.2.2 (fun q _ h => mE_A hE q h) (mE_A hE) (fun r uq tq H locs ht hvm hw hB hz1 hk1 hS => ?_)
    obtain ⟨rfl, rfl⟩ := hw
    have hE : mE G (lA s) s.heap ad (Sy cy ad n k v9 (Si cy ad n k u jN0)) H locs := mE_call hE hB ht hS
    rw [show mAbout v9 j9 (cs j9) 0 = nI (cs j9) from rfl]
    refine lv_istore (lv' := [(15, .int (nI (cs j9))), (14, .int (nI j9)), (11, .int (nI d9)), (9, .int (nI a9)), (4, .int xv), (3, .int (nI tm)), (2, .ref (ad 4)), (1, .ref (ad 0)), (0, .ref b)]) hx hb dL_law_758 hl (by decide) rfl (fun ls hl => ?_)
    refine lv_aload_n hx hb dL_law_760 rfl (lv_at hl 7 rfl) ?_
    refine lv_iload hx hb dL_law_761 (lv_at hl 0 rfl) ?_
    refine lv_iconst (v := nI 0) hx hb dL_law_763 (by decide) ?_
    refine va_calli (va_runV (As := [.int (nI (cs j9)), .int (nI 0)]) (rest := []) ⟨hx, hb, hml, hown, hts⟩ (c_X2_told l G cy ad n k v9 (Si cy ad n k u jN0) hn hk _ (cs j9) h_cs_j9 0 (by decide)) (cwV 2 hts gL_law_X2_told rfl rfl rfl (by decide +kernel) ⟨Nat.le_of_ble_eq_true rfl, Nat.le_of_ble_eq_true rfl⟩) (mP_V (r := (RX2, TX2, 5)) hN hE S_0 rfl) rfl rfl hl.1 rfl (lv_room (Nat.le_of_ble_eq_true rfl)) dL_law_764 ⟨(by show _ ≤ 667787; omega), (by show _ ≤ 7098410; omega)⟩) hE.2.2.2 (fun q _ h => mE_A hE q h) (mE_A hE) (fun r uq tq H locs ht hvm hw hB hz1 hk1 hS => ?_)
    obtain ⟨rfl, rfl⟩ := hw
    have hE : mE G (lA s) s.heap ad (Sy cy ad n k v9 (Si cy ad n k u jN0)) H locs := mE_call hE hB ht hS
    rw [show mTold v9 k (cs j9) 0 = v9 (300 + (cs j9)) 1 from rfl]
    refine lv_aload_n hx hb dL_law_767 rfl (lv_at hl 7 rfl) ?_
    refine lv_iload hx hb dL_law_768 (lv_at hl 1 rfl) ?_
    refine lv_iconst (v := nI 1) hx hb dL_law_770 (by decide) ?_
    refine va_calli (va_runV (As := [.int (nI j9), .int (nI 1)]) (rest := [.int (v9 (300 + (cs j9)) 1)]) ⟨hx, hb, hml, hown, hts⟩ (c_X2_about l G cy ad n k v9 (Si cy ad n k u jN0) hn hk _ j9 h_j9 1 (by decide) (cs j9) (jV_cs hJ h_j9) (jV_0 hJ h_j9)) (cwV 2 hts gL_law_X2_about rfl rfl rfl (by decide +kernel) ⟨Nat.le_of_ble_eq_true rfl, Nat.le_of_ble_eq_true rfl⟩) (mP_V (r := (RX2, TX2, 5)) hN hE S_0 rfl) rfl rfl hl.1 rfl (lv_room (Nat.le_of_ble_eq_true rfl)) dL_law_771 ⟨(by show _ ≤ 667787; omega), (by show _ ≤ 7098410; omega)⟩) hE.2.2.2 (fun q _ h => mE_A hE q h) (mE_A hE) (fun r uq tq H locs ht hvm hw hB hz1 hk1 hS => ?_)
    obtain ⟨rfl, rfl⟩ := hw
    have hE : mE G (lA s) s.heap ad (Sy cy ad n k v9 (Si cy ad n k u jN0)) H locs := mE_call hE hB ht hS
    rw [show mAbout v9 j9 (cs j9) 1 = v9 (400 + j9) 1 from rfl]
    refine lv_icmp_ne (tgt := 781) hx hb dL_law_774 (by decide) (fun c4 => ?_) (fun c4 => ?_)
    · skip
      refine lv_iconst (v := nI 0) hx hb dL_law_781 (by decide) ?_
      refine lv_istore (lv' := [(16, .int (nI 0)), (15, .int (nI (cs j9))), (14, .int (nI j9)), (11, .int (nI d9)), (9, .int (nI a9)), (4, .int xv), (3, .int (nI tm)), (2, .ref (ad 4)), (1, .ref (ad 0)), (0, .ref b)]) hx hb dL_law_782 hl (by decide) rfl (fun ls hl => ?_)
      refine lv_aload_n hx hb dL_law_784 rfl (lv_at hl 8 rfl) ?_
      refine lv_iload hx hb dL_law_785 (lv_at hl 2 rfl) ?_
      refine lv_iload hx hb dL_law_787 (lv_at hl 3 rfl) ?_
      refine lv_aload_n hx hb dL_law_789 rfl (lv_at hl 8 rfl) ?_
      refine lv_iload hx hb dL_law_790 (lv_at hl 1 rfl) ?_
      refine lv_iload hx hb dL_law_792 (lv_at hl 3 rfl) ?_
      refine va_calli (va_runV (As := [.int (nI (cs j9)), .int (nI d9)]) (rest := [.int (nI d9), .int (nI j9), .ref (ad 0)]) ⟨hx, hb, hml, hown, hts⟩ (c_X2_thing l G cy ad n k v9 (Si cy ad n k u jN0) hn hk _ (cs j9) h_cs_j9 d9 (by omega)) (cwV 2 hts gL_law_X2_thing rfl rfl rfl (by decide +kernel) ⟨Nat.le_of_ble_eq_true rfl, Nat.le_of_ble_eq_true rfl⟩) (mP_V (r := (RX2, TX2, 5)) hN hE S_0 rfl) rfl rfl hl.1 rfl (lv_room (Nat.le_of_ble_eq_true rfl)) dL_law_794 ⟨(by show _ ≤ 667787; omega), (by show _ ≤ 7098410; omega)⟩) hE.2.2.2 (fun q _ h => mE_A hE q h) (mE_A hE) (fun r uq tq H locs ht hvm hw hB hz1 hk1 hS => ?_)
      obtain ⟨rfl, rfl⟩ := hw
      have hE : mE G (lA s) s.heap ad (Sy cy ad n k v9 (Si cy ad n k u jN0)) H locs := mE_call hE hB ht hS
      obtain ⟨t5, h_t5, hq_t5⟩ := jV_t hJ h_cs_j9 h_d9
      rw [hq_t5]
      refine va_calli (va_runV (As := [.int (nI j9), .int (nI d9), .int (nI t5)]) (rest := []) ⟨hx, hb, hml, hown, hts⟩ (c_X2_proves l G cy ad n k v9 (Si cy ad n k u jN0) hn hk _ j9 h_j9 d9 t5 h_d9 h_t5 (cs j9) h_cs_j9 (jV_0 hJ h_j9)) (cwV 3 hts gL_law_X2_proves rfl rfl rfl (by decide +kernel) ⟨Nat.le_of_ble_eq_true rfl, Nat.le_of_ble_eq_true rfl⟩) (mP_V (r := (RX2, TX2, 5)) hN hE S_0 rfl) rfl rfl hl.1 rfl (lv_room (Nat.le_of_ble_eq_true rfl)) dL_law_797 ⟨(by show _ ≤ 667787; omega), (by show _ ≤ 7098410; omega)⟩) hE.2.2.2 (fun q _ h => mE_A hE q h) (mE_A hE) (fun r uq tq H locs ht hvm hw hB hz1 hk1 hS => ?_)
      obtain ⟨rfl, rfl⟩ := hw
      have hE : mE G (lA s) s.heap ad (Sy cy ad n k v9 (Si cy ad n k u jN0)) H locs := mE_call hE hB ht hS
      rw [← hq_t5, jPrf4 (jV_c hJ h_cs_j9) h_d9]
      refine lv_iload hx hb dL_law_800 (lv_at hl 0 rfl) ?_
      refine lv_icmp_ne (tgt := 835) hx hb dL_law_802 (by decide) (fun c5 => ?_) (fun c5 => ?_)
      · skip
        exact absurd (mb_f c4) c5
      · skip
        refine lv_iload hx hb dL_law_805 (lv_at hl 0 rfl) ?_
        refine lv_if_eq (tgt := 820) hx hb dL_law_807 (by decide) (fun c6 => ?_) (fun c6 => ?_)
        · skip
          have c6 := (mz_eq (by omega)).mp c6
          refine lv_aload_n hx hb dL_law_820 rfl (lv_at hl 8 rfl) ?_
          refine lv_iload hx hb dL_law_821 (lv_at hl 2 rfl) ?_
          refine lv_iconst (v := nI 3) hx hb dL_law_823 (by decide) ?_
          refine va_calli (va_runV (As := [.int (nI j9), .int (nI 3)]) (rest := []) ⟨hx, hb, hml, hown, hts⟩ (c_X2_about l G cy ad n k v9 (Si cy ad n k u jN0) hn hk _ j9 h_j9 3 (by decide) (cs j9) (jV_cs hJ h_j9) (jV_0 hJ h_j9)) (cwV 2 hts gL_law_X2_about rfl rfl rfl (by decide +kernel) ⟨Nat.le_of_ble_eq_true rfl, Nat.le_of_ble_eq_true rfl⟩) (mP_V (r := (RX2, TX2, 5)) hN hE S_0 rfl) rfl rfl hl.1 rfl (lv_room (Nat.le_of_ble_eq_true rfl)) dL_law_824 ⟨(by show _ ≤ 667787; omega), (by show _ ≤ 7098410; omega)⟩) hE.2.2.2 (fun q _ h => mE_A hE q h) (mE_A hE) (fun r uq tq H locs ht hvm hw hB hz1 hk1 hS => ?_)
          obtain ⟨rfl, rfl⟩ := hw
          have hE : mE G (lA s) s.heap ad (Sy cy ad n k v9 (Si cy ad n k u jN0)) H locs := mE_call hE hB ht hS
          rw [show mAbout v9 j9 (cs j9) 3 = v9 (100 + cs j9) 2 - v9 (400 + j9) 2 from rfl]
          refine lv_if_ne (tgt := 837) hx hb dL_law_827 (by decide) (fun c7 => ?_) (fun c7 => ?_)
          · skip
            refine lv_iinc (v := nI (j9 + 1)) (lv' := [(14, .int (nI (j9 + 1))), (16, .int (nI 0)), (15, .int (nI (cs j9))), (11, .int (nI d9)), (9, .int (nI a9)), (4, .int xv), (3, .int (nI tm)), (2, .ref (ad 4)), (1, .ref (ad 0)), (0, .ref b)]) hx hb dL_law_837 hl (k := 2) rfl (nI_add _ _) (by decide) rfl (fun ls hl => ?_)
            refine lv_goto (tgt := 741) hx hb dL_law_840 (by decide) ?_
            exact ih1 (k - (j9 + 1)) (j9 + 1, v9) _ _ _ (by rw [hn2]; omega) ⟨rfl, ⟨by omega, hJ⟩, hE, lv_sub hl [0, 3, 4, 5, 6, 7, 8, 9] rfl⟩
          · skip
            refine lv_iload hx hb dL_law_830 (lv_at hl 0 rfl) ?_
            refine lv_if_ne (tgt := 837) hx hb dL_law_832 (by decide) (fun c8 => ?_) (fun c8 => ?_)
            · skip
              have c8 : ¬ 0 = 0 := fun h9 => c8 ((mz_eq (by omega)).mpr h9)
              exfalso; omega
            · skip
              have c8 := (mz_eq (by omega)).mp c8
              exact absurd (jKept hJ h_j9 hT c7) c4
        · skip
          have c6 : ¬ 0 = 0 := fun h9 => c6 ((mz_eq (by omega)).mpr h9)
          exfalso; omega
    · skip
      refine lv_iconst (v := nI 1) hx hb dL_law_777 (by decide) ?_
      refine lv_goto (tgt := 782) hx hb dL_law_778 (by decide) ?_
      refine lv_istore (lv' := [(16, .int (nI 1)), (15, .int (nI (cs j9))), (14, .int (nI j9)), (11, .int (nI d9)), (9, .int (nI a9)), (4, .int xv), (3, .int (nI tm)), (2, .ref (ad 4)), (1, .ref (ad 0)), (0, .ref b)]) hx hb dL_law_782 hl (by decide) rfl (fun ls hl => ?_)
      refine lv_aload_n hx hb dL_law_784 rfl (lv_at hl 8 rfl) ?_
      refine lv_iload hx hb dL_law_785 (lv_at hl 2 rfl) ?_
      refine lv_iload hx hb dL_law_787 (lv_at hl 3 rfl) ?_
      refine lv_aload_n hx hb dL_law_789 rfl (lv_at hl 8 rfl) ?_
      refine lv_iload hx hb dL_law_790 (lv_at hl 1 rfl) ?_
      refine lv_iload hx hb dL_law_792 (lv_at hl 3 rfl) ?_
      refine va_calli (va_runV (As := [.int (nI (cs j9)), .int (nI d9)]) (rest := [.int (nI d9), .int (nI j9), .ref (ad 0)]) ⟨hx, hb, hml, hown, hts⟩ (c_X2_thing l G cy ad n k v9 (Si cy ad n k u jN0) hn hk _ (cs j9) h_cs_j9 d9 (by omega)) (cwV 2 hts gL_law_X2_thing rfl rfl rfl (by decide +kernel) ⟨Nat.le_of_ble_eq_true rfl, Nat.le_of_ble_eq_true rfl⟩) (mP_V (r := (RX2, TX2, 5)) hN hE S_0 rfl) rfl rfl hl.1 rfl (lv_room (Nat.le_of_ble_eq_true rfl)) dL_law_794 ⟨(by show _ ≤ 667787; omega), (by show _ ≤ 7098410; omega)⟩) hE.2.2.2 (fun q _ h => mE_A hE q h) (mE_A hE) (fun r uq tq H locs ht hvm hw hB hz1 hk1 hS => ?_)
      obtain ⟨rfl, rfl⟩ := hw
      have hE : mE G (lA s) s.heap ad (Sy cy ad n k v9 (Si cy ad n k u jN0)) H locs := mE_call hE hB ht hS
      obtain ⟨t5, h_t5, hq_t5⟩ := jV_t hJ h_cs_j9 h_d9
      rw [hq_t5]
      refine va_calli (va_runV (As := [.int (nI j9), .int (nI d9), .int (nI t5)]) (rest := []) ⟨hx, hb, hml, hown, hts⟩ (c_X2_proves l G cy ad n k v9 (Si cy ad n k u jN0) hn hk _ j9 h_j9 d9 t5 h_d9 h_t5 (cs j9) h_cs_j9 (jV_0 hJ h_j9)) (cwV 3 hts gL_law_X2_proves rfl rfl rfl (by decide +kernel) ⟨Nat.le_of_ble_eq_true rfl, Nat.le_of_ble_eq_true rfl⟩) (mP_V (r := (RX2, TX2, 5)) hN hE S_0 rfl) rfl rfl hl.1 rfl (lv_room (Nat.le_of_ble_eq_true rfl)) dL_law_797 ⟨(by show _ ≤ 667787; omega), (by show _ ≤ 7098410; omega)⟩) hE.2.2.2 (fun q _ h => mE_A hE q h) (mE_A hE) (fun r uq tq H locs ht hvm hw hB hz1 hk1 hS => ?_)
      obtain ⟨rfl, rfl⟩ := hw
      have hE : mE G (lA s) s.heap ad (Sy cy ad n k v9 (Si cy ad n k u jN0)) H locs := mE_call hE hB ht hS
      rw [← hq_t5, jPrf4 (jV_c hJ h_cs_j9) h_d9]
      refine lv_iload hx hb dL_law_800 (lv_at hl 0 rfl) ?_
      refine lv_icmp_ne (tgt := 835) hx hb dL_law_802 (by decide) (fun c9 => ?_) (fun c9 => ?_)
      · skip
        exact absurd (mb_t c4) c9
      · skip
        refine lv_iload hx hb dL_law_805 (lv_at hl 0 rfl) ?_
        refine lv_if_eq (tgt := 820) hx hb dL_law_807 (by decide) (fun c10 => ?_) (fun c10 => ?_)
        · skip
          have c10 := (mz_eq (by omega)).mp c10
          exfalso; omega
        · skip
          have c10 : ¬ 1 = 0 := fun h9 => c10 ((mz_eq (by omega)).mpr h9)
          refine lv_aload_n hx hb dL_law_810 rfl (lv_at hl 8 rfl) ?_
          refine lv_iload hx hb dL_law_811 (lv_at hl 2 rfl) ?_
          refine va_calli (va_runV (As := [.int (nI j9)]) (rest := []) ⟨hx, hb, hml, hown, hts⟩ (c_X2_swapped l G cy ad n k v9 (Si cy ad n k u jN0) hn hk _ j9 h_j9 (cs j9) h_cs_j9 (jV_0 hJ h_j9) (jV_c hJ h_cs_j9)) (cwV 1 hts gL_law_X2_swapped rfl rfl rfl (by decide +kernel) ⟨Nat.le_of_ble_eq_true rfl, Nat.le_of_ble_eq_true rfl⟩) (mP_V (r := (RX2, TX2, 5)) hN hE S_0 rfl) rfl rfl hl.1 rfl (lv_room (Nat.le_of_ble_eq_true rfl)) dL_law_813 ⟨(by show _ ≤ 667787; omega), (by show _ ≤ 7098410; omega)⟩) hE.2.2.2 (fun q _ h => mE_A hE q h) (mE_A hE) (fun r uq tq H locs ht hvm hw hB hz1 hk1 hS => ?_)
          obtain ⟨hr9, g, wu⟩ := hw
          rw [if_pos c4] at hr9
          subst hr9
          subst wu
          obtain ⟨v8, hv8⟩ : ∃ y99, y99 = va_up v9 3 g := ⟨_, rfl⟩
          have hE : mE G (lA s) s.heap ad (Sy cy ad n k v8 (Si cy ad n k u jN0)) H locs := by rw [hv8]; exact mE_call hE hB ht hS
          have hJ : jV n k v8 u C cs ms T := by rw [hv8]; exact jV_3 hJ g
          refine lv_iconst (v := (-1)) hx hb dL_law_816 (by decide) ?_
          refine lv_icmp_ne (tgt := 835) hx hb dL_law_817 (by decide) (fun c11 => ?_) (fun c11 => ?_)
          · skip
            exact absurd rfl c11
          · skip
            refine lv_aload_n hx hb dL_law_820 rfl (lv_at hl 8 rfl) ?_
            refine lv_iload hx hb dL_law_821 (lv_at hl 2 rfl) ?_
            refine lv_iconst (v := nI 3) hx hb dL_law_823 (by decide) ?_
            refine va_calli (va_runV (As := [.int (nI j9), .int (nI 3)]) (rest := []) ⟨hx, hb, hml, hown, hts⟩ (c_X2_about l G cy ad n k v8 (Si cy ad n k u jN0) hn hk _ j9 h_j9 3 (by decide) (cs j9) (jV_cs hJ h_j9) (jV_0 hJ h_j9)) (cwV 2 hts gL_law_X2_about rfl rfl rfl (by decide +kernel) ⟨Nat.le_of_ble_eq_true rfl, Nat.le_of_ble_eq_true rfl⟩) (mP_V (r := (RX2, TX2, 5)) hN hE S_0 rfl) rfl rfl hl.1 rfl (lv_room (Nat.le_of_ble_eq_true rfl)) dL_law_824 ⟨(by show _ ≤ 667787; omega), (by show _ ≤ 7098410; omega)⟩) hE.2.2.2 (fun q _ h => mE_A hE q h) (mE_A hE) (fun r uq tq H locs ht hvm hw hB hz1 hk1 hS => ?_)
            obtain ⟨rfl, rfl⟩ := hw
            have hE : mE G (lA s) s.heap ad (Sy cy ad n k v8 (Si cy ad n k u jN0)) H locs := mE_call hE hB ht hS
            rw [show mAbout v8 j9 (cs j9) 3 = v8 (100 + cs j9) 2 - v8 (400 + j9) 2 from rfl]
            refine lv_if_ne (tgt := 837) hx hb dL_law_827 (by decide) (fun c12 => ?_) (fun c12 => ?_)
            · skip
              refine lv_iinc (v := nI (j9 + 1)) (lv' := [(14, .int (nI (j9 + 1))), (16, .int (nI 1)), (15, .int (nI (cs j9))), (11, .int (nI d9)), (9, .int (nI a9)), (4, .int xv), (3, .int (nI tm)), (2, .ref (ad 4)), (1, .ref (ad 0)), (0, .ref b)]) hx hb dL_law_837 hl (k := 2) rfl (nI_add _ _) (by decide) rfl (fun ls hl => ?_)
              refine lv_goto (tgt := 741) hx hb dL_law_840 (by decide) ?_
              exact ih1 (k - (j9 + 1)) (j9 + 1, v8) _ _ _ (by rw [hn2]; omega) ⟨rfl, ⟨by omega, hJ⟩, hE, lv_sub hl [0, 3, 4, 5, 6, 7, 8, 9] rfl⟩
            · skip
              refine lv_iload hx hb dL_law_830 (lv_at hl 0 rfl) ?_
              refine lv_if_ne (tgt := 837) hx hb dL_law_832 (by decide) (fun c13 => ?_) (fun c13 => ?_)
              · skip
                have c13 : ¬ 1 = 0 := fun h9 => c13 ((mz_eq (by omega)).mpr h9)
                refine lv_iinc (v := nI (j9 + 1)) (lv' := [(14, .int (nI (j9 + 1))), (16, .int (nI 1)), (15, .int (nI (cs j9))), (11, .int (nI d9)), (9, .int (nI a9)), (4, .int xv), (3, .int (nI tm)), (2, .ref (ad 4)), (1, .ref (ad 0)), (0, .ref b)]) hx hb dL_law_837 hl (k := 2) rfl (nI_add _ _) (by decide) rfl (fun ls hl => ?_)
                refine lv_goto (tgt := 741) hx hb dL_law_840 (by decide) ?_
                exact ih1 (k - (j9 + 1)) (j9 + 1, v8) _ _ _ (by rw [hn2]; omega) ⟨rfl, ⟨by omega, hJ⟩, hE, lv_sub hl [0, 3, 4, 5, 6, 7, 8, 9] rfl⟩
              · skip
                have c13 := (mz_eq (by omega)).mp c13
                exfalso; omega
