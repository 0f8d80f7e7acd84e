/-- what an act may not undo -/
def jLe (n k : Nat) (v : Nat → Nat → Int32) (C : Nat → Nat) (n' k' : Nat) (v' : Nat → Nat → Int32) (C' : Nat → Nat) : Prop := n ≤ n' ∧ 1 ≤ n' ∧ k ≤ k' ∧ (∀ i, i < n → C i ≤ C' i) ∧ jSl k v v'
def jPost (cy : Nat → ClassId) (ad : Nat → Nat) (n k : Nat) (v : Nat → Nat → Int32) (x : mC) (C : Nat → Nat) (T : Nat) (t : (Nat → Nat) × mC) : Prop :=
  ∃ (ad' : Nat → Nat) (n' k' : Nat) (v' u' : Nat → Nat → Int32) (C' cs' ms' : Nat → Nat), t = (ad', Sy cy ad' n' k' v' (Si cy ad' n' k' u' x)) ∧ (∀ j, j = 0 ∨ j = 4 ∨ (70 ≤ j ∧ j < 100) → ad' j = ad j) ∧ jV n' k' v' u' C' cs' ms' T ∧ jLe n k v C n' k' v' C'

set_option maxHeartbeats 4000000 in
set_option maxRecDepth 100000 in
/-- an act -/
theorem c_L_act0 (l : Launch) (G : va_G) (cy : Nat → ClassId) (ad : Nat → Nat) (x : mC) (hx70 : ∀ w, w < 70 → x w = none) (k : Nat) (v u : Nat → Nat → Int32) (C cs ms : Nat → Nat) (T : Nat) (hJ : jV 0 k v u C cs ms T) (sz : Nat) (xv : Int32) : mMi l yL_act wsL_act ({ frames := 18, cells := 6, slots := 100, locals := 540 }) G cy ad (Sy cy ad 0 k v (Si cy ad 0 k u x)) sz [.ref (ad 0), .ref (ad 4), .int xv] 6 100 (fun (r : Int32) t => r = 1 ∧ jPost cy ad 0 k v x C (T + 16) t) := by
  refine Met.ofW (cc := cL_act) (maxL := 9) (ret := (some .boolean)) (by decide) rfl ?_
  intro p e s m args below meth c s₁ B hml hv
  obtain ⟨rfl, hv⟩ := hv
  have hsz := hv.1
  subst hsz
  have hN := hv.2.2
  have hE := mP_E hv
  have hx := B.exec
  have hb := B.bytes
  have hr := B.returns
  have hts := atoms_spec (ws := wsL_act) B.pre
  have hown : s.vm.findClass RL = some m.cls := findClass_of_methodNamed B.named
  have hlocks := B.notSynchronized
  have hiX3 : ∀ w ∈ wsX30, w ∈ wsL_act := by decide +kernel
  have hl := lv_entry ([.ref (ad 0), .ref (ad 4), .int xv]) (n := 9) (Nat.le_of_ble_eq_true rfl)
  rw [lg_entry_eq]
  generalize (lg_sl ([.ref (ad 0), .ref (ad 4), .int xv]) ++ List.replicate (9 - (lg_sl ([.ref (ad 0), .ref (ad 4), .int xv])).length) Slot.unset).toArray = ls at hl ⊢
  have hl : lv_has ls 9 [(0, .ref (ad 0)), (1, .ref (ad 4)), (2, .int xv)] := hl
  have hn := hJ.1
  have hk := hJ.2.1
  have hN6 := hJ.1
  generalize hargs : ([.ref (ad 0), .ref (ad 4), .int xv] : List Value).toArray = args at hts ⊢
  have h_0 : 0 < 1 := Nat.one_pos
  refine lv_aload_n hx hb dL_act_0 rfl (lv_at hl 1 rfl) ?_
  refine va_get (D := G) (ci := 3) (v := .ref (ad 5)) (C := RX3) (T := TX3) (N := 3) hx hb hts hiX3 hown hN.1 (mE_P1 hE ((S_r (by omega) (by omega)).trans (Q_4))) 0 rfl rfl 0 (by decide) (hts (.fieldLink RL 9 "SealedCupboardsLaw$Sim" "things" "[[I") (by decide +kernel)) (fun _ h9 => h9) rfl dL_act_1 ?_
  refine va_alen (v := nI 0) hx hb hN.1 (mE_P1 hE ((S_r (by omega) (by omega)).trans (Q_5))) 0 3 rfl rfl rfl dL_act_4 ?_
  refine lv_istore_n (lv' := [(3, .int (nI 0)), (0, .ref (ad 0)), (1, .ref (ad 4)), (2, .int xv)]) hx hb dL_act_5 rfl hl (by decide) rfl (fun ls hl => ?_)
  refine lv_iload_n hx hb dL_act_6 rfl (lv_at hl 0 rfl) ?_
  refine lv_if_ne (tgt := 14) hx hb dL_act_7 (by decide) (fun c1 => ?_) (fun c1 => ?_)
  · skip
    have c1 : ¬ 0 = 0 := fun h9 => c1 ((mz_eq (by omega)).mpr h9)
    exfalso; omega
  · skip
    have c1 := (mz_eq (by omega)).mp c1
    refine lv_iconst (v := nI 0) hx hb dL_act_10 (by decide) ?_
    refine lv_goto (tgt := 19) hx hb dL_act_11 (by decide) ?_
    refine lv_istore (lv' := [(4, .int (nI 0)), (3, .int (nI 0)), (0, .ref (ad 0)), (1, .ref (ad 4)), (2, .int xv)]) hx hb dL_act_19 hl (by decide) rfl (fun ls hl => ?_)
    refine lv_iload_n hx hb dL_act_21 rfl (lv_at hl 4 rfl) ?_
    refine lv_iconst (v := nI 2) hx hb dL_act_22 (by decide) ?_
    refine mv_ishr (z := xv >>> ((nI 2) &&& 31)) hx hb rfl dL_act_23 ?_
    refine lv_bipush (v := nI 16) hx hb dL_act_24 (by decide) ?_
    refine va_calli (va_runS (As := [.int (xv >>> ((nI 2) &&& 31)), .int (nI 16)]) (rest := []) ⟨hx, hb, hml, hown, hts⟩ (c_L_below l G cy ad (Sy cy ad 0 k v (Si cy ad 0 k u x)) _ (xv >>> ((nI 2) &&& 31)) 16 (by omega) (by omega)) (va_cwS 2 hts gL_act_L_below rfl rfl rfl (by decide +kernel) ⟨Nat.le_of_ble_eq_true rfl, Nat.le_of_ble_eq_true rfl⟩) (mP_S hN hE) rfl rfl hl.1 rfl (lv_room (Nat.le_of_ble_eq_true rfl)) dL_act_26 ⟨Nat.le_of_ble_eq_true rfl, Nat.le_of_ble_eq_true rfl⟩) hE.2.2.2 (fun q _ h => mE_A hE q h) (mE_A hE) (fun r uq tq H locs ht hvm hw hB hz1 hk1 hS => ?_)
    obtain ⟨rfl, rfl⟩ := hw
    have hE : mE G (mA ad (Sy cy ad 0 k v (Si cy ad 0 k u x)) s.heap.size) s.heap ad (Sy cy ad 0 k v (Si cy ad 0 k u x)) H locs := mE_call hE hB ht hS
    obtain ⟨d, hq_d⟩ : ∃ y99, y99 = jBe (xv >>> ((nI 2) &&& 31)) 16 := ⟨_, rfl⟩
    rw [← hq_d]
    have h_d : d < 16 := by rw [hq_d]; exact jBe_lt _ (by omega)
    refine lv_istore (lv' := [(5, .int (nI d)), (4, .int (nI 0)), (3, .int (nI 0)), (0, .ref (ad 0)), (1, .ref (ad 4)), (2, .int xv)]) hx hb dL_act_29 hl (by decide) rfl (fun ls hl => ?_)
    refine lv_iload_n hx hb dL_act_31 rfl (lv_at hl 2 rfl) ?_
    refine lv_if_ne (tgt := 39) hx hb dL_act_32 (by decide) (fun c2 => ?_) (fun c2 => ?_)
    · skip
      have c2 : ¬ 0 = 0 := fun h9 => c2 ((mz_eq (by omega)).mpr h9)
      exfalso; omega
    · skip
      have c2 := (mz_eq (by omega)).mp c2
      refine lv_iconst (v := nI 0) hx hb dL_act_35 (by decide) ?_
      refine lv_goto (tgt := 48) hx hb dL_act_36 (by decide) ?_
      refine lv_tableIn (off := 40) (tgt := 88) hx hb dL_act_48 (by decide) (by decide) rfl (by decide) ?_
      refine lv_iload_n hx hb dL_act_88 rfl (lv_at hl 2 rfl) ?_
      refine lv_bipush (v := nI 6) hx hb dL_act_89 (by decide) ?_
      refine mv_ne (tgt := 96) hx hb (by omega) (by omega) dL_act_91 (by decide) (fun c3 => ?_) (fun c3 => ?_)
      · skip
        refine lv_aload_n hx hb dL_act_96 rfl (lv_at hl 4 rfl) ?_
        refine lv_aload_n hx hb dL_act_97 rfl (lv_at hl 4 rfl) ?_
        refine va_get (D := G) (ci := 3) (v := .ref (ad 5)) (C := RX3) (T := TX3) (N := 3) hx hb hts hiX3 hown hN.1 (mE_P1 hE ((S_r (by omega) (by omega)).trans (Q_4))) 0 rfl rfl 0 (by decide) (hts (.fieldLink RL 9 "SealedCupboardsLaw$Sim" "things" "[[I") (by decide +kernel)) (fun _ h9 => h9) rfl dL_act_98 ?_
        refine lv_bipush (v := nI 16) hx hb dL_act_101 (by decide) ?_
        refine mx_newi hx hb (hts (.arrayClass .int) (by decide +kernel)) hN hE (20 + 0) ((S_r (by omega) (by omega)).trans ((Q_r (by unfold jIs; omega)).trans (hx70 _ (by omega)))) (by omega) rfl (by decide) (Nat.le_of_ble_eq_true rfl) (Nat.le_of_ble_eq_true rfl) dL_act_103 (fun ad1 H hj1 hE => ?_)
        rw [← hj1 0 (by omega), ← hj1 4 (by omega)] at hl
        rw [← hj1 4 (by omega), ← hj1 5 (by omega)]
        have w1 : mU (Sy cy ad 0 k v (Si cy ad 0 k u x)) (20 + 0) (mI cy 16 (fun _ => 0)) = Sy cy ad1 0 k v (Si cy ad1 0 k u (mU x (20 + 0) (mI cy 16 (fun _ => 0)))) := by rw [S_ux (by omega) (by omega), Q_ux (by unfold jIs; omega), Q_ad (ad' := ad1) (fun j hj => hj1 j (by unfold jIs at hj; omega)), S_adc (ad' := ad1) (fun j hj => hj1 j (by omega))]
        rw [w1] at hE
        have m8 : (Sy cy ad1 0 k v (Si cy ad1 0 k u (mU x (20 + 0) (mI cy 16 (fun _ => 0))))) 8 = none := (S_r (by decide) (by decide)).trans ((Q_r (by unfold jIs; omega)).trans ((mU_n _ _ (by omega)).trans (hx70 8 (by decide))))
        have m1 : ∀ i, i ≤ 0 → ∃ (n9 : Nat) (g : Nat → Int32), (Sy cy ad1 0 k v (Si cy ad1 0 k u (mU x (20 + 0) (mI cy 16 (fun _ => 0))))) (20 + i) = some (mI cy n9 g) := fun i hi => if h9 : i < 0 then ⟨_, _, (S_r (by omega) (by omega)).trans (Q_t h9)⟩ else ⟨16, (fun _ => 0), by rw [show i = 0 by omega]; exact (S_r (by omega) (by omega)).trans ((Q_r (by unfold jIs; omega)).trans (mU_s _ _ _))⟩
        refine va_callq (va_runS (As := [.ref (ad1 5), .ref (ad1 (20 + 0))]) (rest := [.ref (ad1 4)]) ⟨hx, hb, hml, hown, hts⟩ (c_X3_more l G cy ad1 (Sy cy ad1 0 k v (Si cy ad1 0 k u (mU x (20 + 0) (mI cy 16 (fun _ => 0))))) _ 5 20 0 (by omega) (by decide) (by decide) ((S_r (by decide) (by decide)).trans Q_5) m1 m8) (va_cwS 2 hts gL_act_X3_more rfl rfl rfl (by decide +kernel) ⟨Nat.le_of_ble_eq_true rfl, Nat.le_of_ble_eq_true rfl⟩) (mP_S hN hE) rfl rfl hl.1 rfl (lv_room (Nat.le_of_ble_eq_true rfl)) dL_act_105 ⟨Nat.le_of_ble_eq_true rfl, Nat.le_of_ble_eq_true rfl⟩) hE.2.2.2 (fun q _ h => mE_A hE q h) (mE_A hE) (fun r uq tq H locs ht hvm hw hB hz1 hk1 hS => ?_)
        obtain ⟨ad2, M2⟩ := uq
        obtain ⟨wr, wa, wm⟩ := hw
        have wr : r = some (ad2 8) := wr
        have wa : ∀ j, j ≠ 8 → ad2 j = ad1 j := wa
        have wm : M2 = mU (Sy cy ad1 0 k v (Si cy ad1 0 k u (mU x (20 + 0) (mI cy 16 (fun _ => 0))))) 8 (mRR cy ad2 (0 + 1) (0 + 1) 20) := wm
        subst wr
        have hE : mE G (mA ad (Sy cy ad 0 k v (Si cy ad 0 k u x)) s.heap.size) s.heap ad2 M2 H locs := mE_call hE hB ht hS
        rw [wm, Q_ad (ad' := ad2) (fun j hj => wa j (by unfold jIs at hj; omega)), S_adc (ad' := ad2) (fun j hj => wa j (by omega))] at hE
        rw [← wa 0 (by decide), ← wa 4 (by decide)] at hl
        rw [← wa 4 (by decide)]
        refine mx_put (ci := 3) (v := .ref (ad2 8)) (ty := .array (.array .int)) (C := RX3) (T := TX3) (N := 3) hx hb hts hiX3 tyX3 tyX3_ok nmX3 hown hN hE ((mU_n _ _ (by decide)).trans ((S_r (by decide) (by decide)).trans Q_4)) rfl 0 (by decide) (hts (.fieldLink RL 9 "SealedCupboardsLaw$Sim" "things" "[[I") (by decide +kernel)) (fun _ h9 => h9) rfl (by decide +kernel) rfl rfl (Nat.le_of_ble_eq_true rfl) dL_act_108 (fun H locs hE => ?_)
        obtain ⟨ad3, h3, hE⟩ := R_things (by omega) hk hx70 hE
        rw [← h3 0 (by decide), ← h3 4 (by decide)] at hl
        refine lv_aload_n hx hb dL_act_111 rfl (lv_at hl 3 rfl) ?_
        refine va_calli (va_runV (As := []) (rest := []) ⟨hx, hb, hml, hown, hts⟩ (c_X2_come l G cy ad3 0 k v (Si cy ad3 (0 + 1) k (va_up u (20 + 0) (fun _ => 0)) x) hn hk _ (by omega)) (cwV 0 hts gL_act_X2_come rfl rfl rfl (by decide +kernel) ⟨Nat.le_of_ble_eq_true rfl, Nat.le_of_ble_eq_true rfl⟩) (mP_V (r := (RX2, TX2, 5)) hN hE S_0 rfl) rfl rfl hl.1 rfl (lv_room (Nat.le_of_ble_eq_true rfl)) dL_act_112 ⟨Nat.le_of_ble_eq_true rfl, Nat.le_of_ble_eq_true rfl⟩) hE.2.2.2 (fun q _ h => mE_A hE q h) (mE_A hE) (fun r uq tq H locs ht hvm hw hB hz1 hk1 hS => ?_)
        obtain ⟨rfl, ad4, g, wu, wa4, hg⟩ := hw
        subst wu
        have wa4 : ∀ j, mIs 0 k j → ad4 j = ad3 j := wa4
        have hE : mE G (mA ad (Sy cy ad 0 k v (Si cy ad 0 k u x)) s.heap.size) s.heap ad4 (Sy cy ad4 (0 + 1) k (mVc v 0 g) (Si cy ad4 (0 + 1) k (va_up u (20 + 0) (fun _ => 0)) x)) H locs := by rw [← Q_ad (ad := ad3) (fun j hj => wa4 j (by unfold mIs; unfold jIs at hj; omega))]; exact mE_call hE hB ht hS
        rw [← wa4 0 (by unfold mIs; omega), ← wa4 4 (by unfold mIs; omega)] at hl
        refine lv_iload_n hx hb dL_act_115 rfl (lv_at hl 2 rfl) ?_
        refine mv_ne (tgt := 123) hx hb (by omega) (by omega) dL_act_116 (by decide) (fun c4 => ?_) (fun c4 => ?_)
        · skip
          exfalso; omega
        · skip
          refine lv_iconst (v := nI 1) hx hb dL_act_119 (by decide) ?_
          refine lv_goto (tgt := 124) hx hb dL_act_120 (by decide) ?_
          refine W.widen (k := 6) (n := 100) (by omega) (by omega) ?_
          exact mx_zret hx hb hr rfl hE hlocks ⟨rfl, ad4, _, _, _, _, va_up C 0 0, cs, ms, rfl, fun j hj => (wa4 j (by unfold mIs; omega)).trans ((h3 j (by omega)).trans ((wa j (by omega)).trans (hj1 j (by omega)))), jV_T (jV_come hJ (by omega) hg) (by omega), by omega, by omega, Nat.le_refl _, fun i hi => by rw [va_up_n _ _ (by omega)]; exact Nat.le_refl _, fun j hj => mVc_n (by omega) (by omega) (by omega)⟩ dL_act_124
      · skip
        exfalso; omega

set_option maxHeartbeats 4000000 in
set_option maxRecDepth 100000 in
/-- an act -/
theorem c_L_act1 (l : Launch) (G : va_G) (cy : Nat → ClassId) (ad : Nat → Nat) (x : mC) (hx70 : ∀ w, w < 70 → x w = none) (n k : Nat) (v u : Nat → Nat → Int32) (C cs ms : Nat → Nat) (T : Nat) (hJ : jV n k v u C cs ms T) (sz : Nat) (xv : Int32) (hn0 : 0 < n) : mMi l yL_act wsL_act ({ frames := 18, cells := 6, slots := 100, locals := 540 }) G cy ad (Sy cy ad n k v (Si cy ad n k u x)) sz [.ref (ad 0), .ref (ad 4), .int xv] 6 100 (fun (r : Int32) t => r = 1 ∧ jPost cy ad n k v x C (T + 16) t) := by
  refine Met.ofW (cc := cL_act) (maxL := 9) (ret := (some .boolean)) (by decide) rfl ?_
  intro p e s m args below meth c s₁ B hml hv
  obtain ⟨rfl, hv⟩ := hv
  have hsz := hv.1
  subst hsz
  have hN := hv.2.2
  have hE := mP_E hv
  have hx := B.exec
  have hb := B.bytes
  have hr := B.returns
  have hts := atoms_spec (ws := wsL_act) B.pre
  have hown : s.vm.findClass RL = some m.cls := findClass_of_methodNamed B.named
  have hlocks := B.notSynchronized
  have hiX3 : ∀ w ∈ wsX30, w ∈ wsL_act := by decide +kernel
  have hl := lv_entry ([.ref (ad 0), .ref (ad 4), .int xv]) (n := 9) (Nat.le_of_ble_eq_true rfl)
  rw [lg_entry_eq]
  generalize (lg_sl ([.ref (ad 0), .ref (ad 4), .int xv]) ++ List.replicate (9 - (lg_sl ([.ref (ad 0), .ref (ad 4), .int xv])).length) Slot.unset).toArray = ls at hl ⊢
  have hl : lv_has ls 9 [(0, .ref (ad 0)), (1, .ref (ad 4)), (2, .int xv)] := hl
  have hn := hJ.1
  have hk := hJ.2.1
  have hN6 := hJ.1
  generalize hargs : ([.ref (ad 0), .ref (ad 4), .int xv] : List Value).toArray = args at hts ⊢
  refine lv_aload_n hx hb dL_act_0 rfl (lv_at hl 1 rfl) ?_
  refine va_get (D := G) (ci := 3) (v := .ref (ad 5)) (C := RX3) (T := TX3) (N := 3) hx hb hts hiX3 hown hN.1 (mE_P1 hE ((S_r (by omega) (by omega)).trans (Q_4))) 0 rfl rfl 0 (by decide) (hts (.fieldLink RL 9 "SealedCupboardsLaw$Sim" "things" "[[I") (by decide +kernel)) (fun _ h9 => h9) rfl dL_act_1 ?_
  refine va_alen (v := nI n) hx hb hN.1 (mE_P1 hE ((S_r (by omega) (by omega)).trans (Q_5))) 0 3 rfl rfl rfl dL_act_4 ?_
  refine lv_istore_n (lv' := [(3, .int (nI n)), (0, .ref (ad 0)), (1, .ref (ad 4)), (2, .int xv)]) hx hb dL_act_5 rfl hl (by decide) rfl (fun ls hl => ?_)
  refine lv_iload_n hx hb dL_act_6 rfl (lv_at hl 0 rfl) ?_
  refine lv_if_ne (tgt := 14) hx hb dL_act_7 (by decide) (fun c1 => ?_) (fun c1 => ?_)
  · skip
    have c1 : ¬ n = 0 := fun h9 => c1 ((mz_eq (by omega)).mpr h9)
    refine lv_iload_n hx hb dL_act_14 rfl (lv_at hl 3 rfl) ?_
    refine lv_iload_n hx hb dL_act_15 rfl (lv_at hl 0 rfl) ?_
    refine va_calli (va_runS (As := [.int xv, .int (nI n)]) (rest := []) ⟨hx, hb, hml, hown, hts⟩ (c_L_below l G cy ad (Sy cy ad n k v (Si cy ad n k u x)) _ xv n (by omega) (by omega)) (va_cwS 2 hts gL_act_L_below rfl rfl rfl (by decide +kernel) ⟨Nat.le_of_ble_eq_true rfl, Nat.le_of_ble_eq_true rfl⟩) (mP_S hN hE) rfl rfl hl.1 rfl (lv_room (Nat.le_of_ble_eq_true rfl)) dL_act_16 ⟨Nat.le_of_ble_eq_true rfl, Nat.le_of_ble_eq_true rfl⟩) hE.2.2.2 (fun q _ h => mE_A hE q h) (mE_A hE) (fun r uq tq H locs ht hvm hw hB hz1 hk1 hS => ?_)
    obtain ⟨rfl, rfl⟩ := hw
    have hE : mE G (mA ad (Sy cy ad n k v (Si cy ad n k u x)) s.heap.size) s.heap ad (Sy cy ad n k v (Si cy ad n k u x)) H locs := mE_call hE hB ht hS
    obtain ⟨c, hq_c⟩ : ∃ y99, y99 = jBe xv n := ⟨_, rfl⟩
    rw [← hq_c]
    have h_c : c < n := by rw [hq_c]; exact jBe_lt _ (by omega)
    refine lv_istore (lv' := [(4, .int (nI c)), (3, .int (nI n)), (0, .ref (ad 0)), (1, .ref (ad 4)), (2, .int xv)]) hx hb dL_act_19 hl (by decide) rfl (fun ls hl => ?_)
    refine lv_iload_n hx hb dL_act_21 rfl (lv_at hl 4 rfl) ?_
    refine lv_iconst (v := nI 2) hx hb dL_act_22 (by decide) ?_
    refine mv_ishr (z := xv >>> ((nI 2) &&& 31)) hx hb rfl dL_act_23 ?_
    refine lv_bipush (v := nI 16) hx hb dL_act_24 (by decide) ?_
    refine va_calli (va_runS (As := [.int (xv >>> ((nI 2) &&& 31)), .int (nI 16)]) (rest := []) ⟨hx, hb, hml, hown, hts⟩ (c_L_below l G cy ad (Sy cy ad n k v (Si cy ad n k u x)) _ (xv >>> ((nI 2) &&& 31)) 16 (by omega) (by omega)) (va_cwS 2 hts gL_act_L_below rfl rfl rfl (by decide +kernel) ⟨Nat.le_of_ble_eq_true rfl, Nat.le_of_ble_eq_true rfl⟩) (mP_S hN hE) rfl rfl hl.1 rfl (lv_room (Nat.le_of_ble_eq_true rfl)) dL_act_26 ⟨Nat.le_of_ble_eq_true rfl, Nat.le_of_ble_eq_true rfl⟩) hE.2.2.2 (fun q _ h => mE_A hE q h) (mE_A hE) (fun r uq tq H locs ht hvm hw hB hz1 hk1 hS => ?_)
    obtain ⟨rfl, rfl⟩ := hw
    have hE : mE G (mA ad (Sy cy ad n k v (Si cy ad n k u x)) s.heap.size) s.heap ad (Sy cy ad n k v (Si cy ad n k u x)) H locs := mE_call hE hB ht hS
    obtain ⟨d, hq_d⟩ : ∃ y99, y99 = jBe (xv >>> ((nI 2) &&& 31)) 16 := ⟨_, rfl⟩
    rw [← hq_d]
    have h_d : d < 16 := by rw [hq_d]; exact jBe_lt _ (by omega)
    refine lv_istore (lv' := [(5, .int (nI d)), (4, .int (nI c)), (3, .int (nI n)), (0, .ref (ad 0)), (1, .ref (ad 4)), (2, .int xv)]) hx hb dL_act_29 hl (by decide) rfl (fun ls hl => ?_)
    refine lv_iload_n hx hb dL_act_31 rfl (lv_at hl 2 rfl) ?_
    refine lv_if_ne (tgt := 39) hx hb dL_act_32 (by decide) (fun c2 => ?_) (fun c2 => ?_)
    · skip
      have c2 : ¬ n = 0 := fun h9 => c2 ((mz_eq (by omega)).mpr h9)
      refine lv_iload_n hx hb dL_act_39 rfl (lv_at hl 5 rfl) ?_
      refine lv_bipush (v := nI 9) hx hb dL_act_40 (by decide) ?_
      refine mv_ishr (z := xv >>> ((nI 9) &&& 31)) hx hb rfl dL_act_42 ?_
      refine lv_bipush (v := nI 12) hx hb dL_act_43 (by decide) ?_
      refine va_calli (va_runS (As := [.int (xv >>> ((nI 9) &&& 31)), .int (nI 12)]) (rest := []) ⟨hx, hb, hml, hown, hts⟩ (c_L_below l G cy ad (Sy cy ad n k v (Si cy ad n k u x)) _ (xv >>> ((nI 9) &&& 31)) 12 (by omega) (by omega)) (va_cwS 2 hts gL_act_L_below rfl rfl rfl (by decide +kernel) ⟨Nat.le_of_ble_eq_true rfl, Nat.le_of_ble_eq_true rfl⟩) (mP_S hN hE) rfl rfl hl.1 rfl (lv_room (Nat.le_of_ble_eq_true rfl)) dL_act_45 ⟨Nat.le_of_ble_eq_true rfl, Nat.le_of_ble_eq_true rfl⟩) hE.2.2.2 (fun q _ h => mE_A hE q h) (mE_A hE) (fun r uq tq H locs ht hvm hw hB hz1 hk1 hS => ?_)
      obtain ⟨rfl, rfl⟩ := hw
      have hE : mE G (mA ad (Sy cy ad n k v (Si cy ad n k u x)) s.heap.size) s.heap ad (Sy cy ad n k v (Si cy ad n k u x)) H locs := mE_call hE hB ht hS
      obtain ⟨y, hq_y⟩ : ∃ y99, y99 = jBe (xv >>> ((nI 9) &&& 31)) 12 := ⟨_, rfl⟩
      rw [← hq_y]
      have h_y : y < 12 := by rw [hq_y]; exact jBe_lt _ (by omega)
      rcases (show y = 0 ∨ y = 1 ∨ y = 2 ∨ y = 3 ∨ y = 4 ∨ y = 5 ∨ 6 ≤ y by omega) with rfl | rfl | rfl | rfl | rfl | rfl | hy6
      · skip
        refine lv_tableIn (off := 40) (tgt := 88) hx hb dL_act_48 (by decide) (by decide) rfl (by decide) ?_
        refine lv_iload_n hx hb dL_act_88 rfl (lv_at hl 2 rfl) ?_
        refine lv_bipush (v := nI 6) hx hb dL_act_89 (by decide) ?_
        refine mv_ne (tgt := 96) hx hb (by omega) (by omega) dL_act_91 (by decide) (fun c3 => ?_) (fun c3 => ?_)
        · skip
          refine lv_aload_n hx hb dL_act_96 rfl (lv_at hl 4 rfl) ?_
          refine lv_aload_n hx hb dL_act_97 rfl (lv_at hl 4 rfl) ?_
          refine va_get (D := G) (ci := 3) (v := .ref (ad 5)) (C := RX3) (T := TX3) (N := 3) hx hb hts hiX3 hown hN.1 (mE_P1 hE ((S_r (by omega) (by omega)).trans (Q_4))) 0 rfl rfl 0 (by decide) (hts (.fieldLink RL 9 "SealedCupboardsLaw$Sim" "things" "[[I") (by decide +kernel)) (fun _ h9 => h9) rfl dL_act_98 ?_
          refine lv_bipush (v := nI 16) hx hb dL_act_101 (by decide) ?_
          refine mx_newi hx hb (hts (.arrayClass .int) (by decide +kernel)) hN hE (20 + n) ((S_r (by omega) (by omega)).trans ((Q_r (by unfold jIs; omega)).trans (hx70 _ (by omega)))) (by omega) rfl (by decide) (Nat.le_of_ble_eq_true rfl) (Nat.le_of_ble_eq_true rfl) dL_act_103 (fun ad1 H hj1 hE => ?_)
          rw [← hj1 0 (by omega), ← hj1 4 (by omega)] at hl
          rw [← hj1 4 (by omega), ← hj1 5 (by omega)]
          have w1 : mU (Sy cy ad n k v (Si cy ad n k u x)) (20 + n) (mI cy 16 (fun _ => 0)) = Sy cy ad1 n k v (Si cy ad1 n k u (mU x (20 + n) (mI cy 16 (fun _ => 0)))) := by rw [S_ux (by omega) (by omega), Q_ux (by unfold jIs; omega), Q_ad (ad' := ad1) (fun j hj => hj1 j (by unfold jIs at hj; omega)), S_adc (ad' := ad1) (fun j hj => hj1 j (by omega))]
          rw [w1] at hE
          have m8 : (Sy cy ad1 n k v (Si cy ad1 n k u (mU x (20 + n) (mI cy 16 (fun _ => 0))))) 8 = none := (S_r (by decide) (by decide)).trans ((Q_r (by unfold jIs; omega)).trans ((mU_n _ _ (by omega)).trans (hx70 8 (by decide))))
          have m1 : ∀ i, i ≤ n → ∃ (n9 : Nat) (g : Nat → Int32), (Sy cy ad1 n k v (Si cy ad1 n k u (mU x (20 + n) (mI cy 16 (fun _ => 0))))) (20 + i) = some (mI cy n9 g) := fun i hi => if h9 : i < n then ⟨_, _, (S_r (by omega) (by omega)).trans (Q_t h9)⟩ else ⟨16, (fun _ => 0), by rw [show i = n by omega]; exact (S_r (by omega) (by omega)).trans ((Q_r (by unfold jIs; omega)).trans (mU_s _ _ _))⟩
          refine va_callq (va_runS (As := [.ref (ad1 5), .ref (ad1 (20 + n))]) (rest := [.ref (ad1 4)]) ⟨hx, hb, hml, hown, hts⟩ (c_X3_more l G cy ad1 (Sy cy ad1 n k v (Si cy ad1 n k u (mU x (20 + n) (mI cy 16 (fun _ => 0))))) _ 5 20 n (by omega) (by decide) (by decide) ((S_r (by decide) (by decide)).trans Q_5) m1 m8) (va_cwS 2 hts gL_act_X3_more rfl rfl rfl (by decide +kernel) ⟨Nat.le_of_ble_eq_true rfl, Nat.le_of_ble_eq_true rfl⟩) (mP_S hN hE) rfl rfl hl.1 rfl (lv_room (Nat.le_of_ble_eq_true rfl)) dL_act_105 ⟨Nat.le_of_ble_eq_true rfl, Nat.le_of_ble_eq_true rfl⟩) hE.2.2.2 (fun q _ h => mE_A hE q h) (mE_A hE) (fun r uq tq H locs ht hvm hw hB hz1 hk1 hS => ?_)
          obtain ⟨ad2, M2⟩ := uq
          obtain ⟨wr, wa, wm⟩ := hw
          have wr : r = some (ad2 8) := wr
          have wa : ∀ j, j ≠ 8 → ad2 j = ad1 j := wa
          have wm : M2 = mU (Sy cy ad1 n k v (Si cy ad1 n k u (mU x (20 + n) (mI cy 16 (fun _ => 0))))) 8 (mRR cy ad2 (n + 1) (n + 1) 20) := wm
          subst wr
          have hE : mE G (mA ad (Sy cy ad n k v (Si cy ad n k u x)) s.heap.size) s.heap ad2 M2 H locs := mE_call hE hB ht hS
          rw [wm, Q_ad (ad' := ad2) (fun j hj => wa j (by unfold jIs at hj; omega)), S_adc (ad' := ad2) (fun j hj => wa j (by omega))] at hE
          rw [← wa 0 (by decide), ← wa 4 (by decide)] at hl
          rw [← wa 4 (by decide)]
          refine mx_put (ci := 3) (v := .ref (ad2 8)) (ty := .array (.array .int)) (C := RX3) (T := TX3) (N := 3) hx hb hts hiX3 tyX3 tyX3_ok nmX3 hown hN hE ((mU_n _ _ (by decide)).trans ((S_r (by decide) (by decide)).trans Q_4)) rfl 0 (by decide) (hts (.fieldLink RL 9 "SealedCupboardsLaw$Sim" "things" "[[I") (by decide +kernel)) (fun _ h9 => h9) rfl (by decide +kernel) rfl rfl (Nat.le_of_ble_eq_true rfl) dL_act_108 (fun H locs hE => ?_)
          obtain ⟨ad3, h3, hE⟩ := R_things (by omega) hk hx70 hE
          rw [← h3 0 (by decide), ← h3 4 (by decide)] at hl
          refine lv_aload_n hx hb dL_act_111 rfl (lv_at hl 3 rfl) ?_
          refine va_calli (va_runV (As := []) (rest := []) ⟨hx, hb, hml, hown, hts⟩ (c_X2_come l G cy ad3 n k v (Si cy ad3 (n + 1) k (va_up u (20 + n) (fun _ => 0)) x) hn hk _ (by omega)) (cwV 0 hts gL_act_X2_come rfl rfl rfl (by decide +kernel) ⟨Nat.le_of_ble_eq_true rfl, Nat.le_of_ble_eq_true rfl⟩) (mP_V (r := (RX2, TX2, 5)) hN hE S_0 rfl) rfl rfl hl.1 rfl (lv_room (Nat.le_of_ble_eq_true rfl)) dL_act_112 ⟨Nat.le_of_ble_eq_true rfl, Nat.le_of_ble_eq_true rfl⟩) hE.2.2.2 (fun q _ h => mE_A hE q h) (mE_A hE) (fun r uq tq H locs ht hvm hw hB hz1 hk1 hS => ?_)
          obtain ⟨rfl, ad4, g, wu, wa4, hg⟩ := hw
          subst wu
          have wa4 : ∀ j, mIs n k j → ad4 j = ad3 j := wa4
          have hE : mE G (mA ad (Sy cy ad n k v (Si cy ad n k u x)) s.heap.size) s.heap ad4 (Sy cy ad4 (n + 1) k (mVc v n g) (Si cy ad4 (n + 1) k (va_up u (20 + n) (fun _ => 0)) x)) H locs := by rw [← Q_ad (ad := ad3) (fun j hj => wa4 j (by unfold mIs; unfold jIs at hj; omega))]; exact mE_call hE hB ht hS
          rw [← wa4 0 (by unfold mIs; omega), ← wa4 4 (by unfold mIs; omega)] at hl
          refine lv_iload_n hx hb dL_act_115 rfl (lv_at hl 2 rfl) ?_
          refine mv_ne (tgt := 123) hx hb (by omega) (by omega) dL_act_116 (by decide) (fun c4 => ?_) (fun c4 => ?_)
          · skip
            exfalso; omega
          · skip
            refine lv_iconst (v := nI 1) hx hb dL_act_119 (by decide) ?_
            refine lv_goto (tgt := 124) hx hb dL_act_120 (by decide) ?_
            refine W.widen (k := 6) (n := 100) (by omega) (by omega) ?_
            exact mx_zret hx hb hr rfl hE hlocks ⟨rfl, ad4, _, _, _, _, va_up C n 0, cs, ms, rfl, fun j hj => (wa4 j (by unfold mIs; omega)).trans ((h3 j (by omega)).trans ((wa j (by omega)).trans (hj1 j (by omega)))), jV_T (jV_come hJ (by omega) hg) (by omega), by omega, by omega, Nat.le_refl _, fun i hi => by rw [va_up_n _ _ (by omega)]; exact Nat.le_refl _, fun j hj => mVc_n (by omega) (by omega) (by omega)⟩ dL_act_124
        · skip
          refine lv_iconst (v := nI 1) hx hb dL_act_94 (by decide) ?_
          refine W.widen (k := 6) (n := 100) (by omega) (by omega) ?_
          exact mx_zret hx hb hr rfl hE hlocks ⟨rfl, ad, _, _, _, _, C, cs, ms, rfl, fun j _ => rfl, jV_T hJ (by omega), Nat.le_refl _, by omega, Nat.le_refl _, fun i hi => Nat.le_refl _, fun j hj => rfl⟩ dL_act_95
      · skip
        refine lv_tableIn (off := 77) (tgt := 125) hx hb dL_act_48 (by decide) (by decide) rfl (by decide) ?_
        refine lv_aload_n hx hb dL_act_125 rfl (lv_at hl 4 rfl) ?_
        refine va_get (D := G) (ci := 3) (v := .ref (ad 6)) (C := RX3) (T := TX3) (N := 3) hx hb hts hiX3 hown hN.1 (mE_P1 hE ((S_r (by omega) (by omega)).trans (Q_4))) 0 rfl rfl 1 (by decide) (hts (.fieldLink RL 31 "SealedCupboardsLaw$Sim" "seals" "[[I") (by decide +kernel)) (fun _ h9 => h9) rfl dL_act_126 ?_
        refine va_alen (v := nI k) hx hb hN.1 (mE_P1 hE ((S_r (by omega) (by omega)).trans (Q_6))) 0 3 rfl rfl rfl dL_act_129 ?_
        refine lv_bipush (v := nI 20) hx hb dL_act_130 (by decide) ?_
        refine mv_ne (tgt := 137) hx hb (by omega) (by omega) dL_act_132 (by decide) (fun c5 => ?_) (fun c5 => ?_)
        · skip
          refine lv_aload_n hx hb dL_act_137 rfl (lv_at hl 4 rfl) ?_
          refine lv_aload_n hx hb dL_act_138 rfl (lv_at hl 4 rfl) ?_
          refine va_get (D := G) (ci := 3) (v := .ref (ad 6)) (C := RX3) (T := TX3) (N := 3) hx hb hts hiX3 hown hN.1 (mE_P1 hE ((S_r (by omega) (by omega)).trans (Q_4))) 0 rfl rfl 1 (by decide) (hts (.fieldLink RL 31 "SealedCupboardsLaw$Sim" "seals" "[[I") (by decide +kernel)) (fun _ h9 => h9) rfl dL_act_139 ?_
          refine lv_iconst (v := nI 3) hx hb dL_act_142 (by decide) ?_
          refine mx_newi hx hb (hts (.arrayClass .int) (by decide +kernel)) hN hE (40 + k) ((S_r (by omega) (by omega)).trans ((Q_r (by unfold jIs; omega)).trans (hx70 _ (by omega)))) (by omega) rfl (by decide) (Nat.le_of_ble_eq_true rfl) (Nat.le_of_ble_eq_true rfl) dL_act_143 (fun ad1 H hj1 hE => ?_)
          rw [← hj1 0 (by omega), ← hj1 4 (by omega)] at hl
          rw [← hj1 4 (by omega), ← hj1 6 (by omega)]
          have w1 : mU (Sy cy ad n k v (Si cy ad n k u x)) (40 + k) (mI cy 3 (fun _ => 0)) = Sy cy ad1 n k v (Si cy ad1 n k u (mU x (40 + k) (mI cy 3 (fun _ => 0)))) := by rw [S_ux (by omega) (by omega), Q_ux (by unfold jIs; omega), Q_ad (ad' := ad1) (fun j hj => hj1 j (by unfold jIs at hj; omega)), S_adc (ad' := ad1) (fun j hj => hj1 j (by omega))]
          rw [w1] at hE
          refine lv_dup hx hb dL_act_145 rfl ?_
          refine lv_iconst (v := nI 0) hx hb dL_act_146 (by decide) ?_
          refine lv_iload hx hb dL_act_147 (lv_at hl 1 rfl) ?_
          refine mx_iast hx hb hN hE ((S_r (by omega) (by omega)).trans ((Q_r (by unfold jIs; omega)).trans (mU_s _ _ _))) (j := 0) rfl (by omega) (by decide) dL_act_149 (fun H locs hE => ?_)
          have hE : mE G (mA ad (Sy cy ad n k v (Si cy ad n k u x)) s.heap.size) s.heap ad1 (Sy cy ad1 n k v (Si cy ad1 n k u (mU x (40 + k) (mI cy 3 (upd ((fun _ => 0)) 0 (nI c)))))) H locs := by rw [S_ux (by omega) (by omega), Q_ux (by unfold jIs; omega), jU_uu] at hE; exact hE
          refine lv_dup hx hb dL_act_150 rfl ?_
          refine lv_iconst (v := nI 1) hx hb dL_act_151 (by decide) ?_
          refine lv_aload_n hx hb dL_act_152 rfl (lv_at hl 4 rfl) ?_
          refine lv_iload hx hb dL_act_153 (lv_at hl 1 rfl) ?_
          refine va_calli (va_runV (As := [.int (nI c)]) (rest := [.int (nI 1), .ref (ad1 (40 + k)), .ref (ad1 (40 + k)), .ref (ad1 6), .ref (ad1 4)]) ⟨hx, hb, hml, hown, hts⟩ (b_X3_root l G cy ad1 n k v n k u (mU x (40 + k) (mI cy 3 (upd ((fun _ => 0)) 0 (nI c)))) hn hk _ c h_c) (cwV 1 hts gL_act_X3_root rfl rfl rfl (by decide +kernel) ⟨Nat.le_of_ble_eq_true rfl, Nat.le_of_ble_eq_true rfl⟩) (mP_V (r := (RX3, TX3, 3)) hN hE ((S_r (by omega) (by omega)).trans (Q_4)) rfl) rfl rfl hl.1 rfl (lv_room (Nat.le_of_ble_eq_true rfl)) dL_act_155 ⟨Nat.le_of_ble_eq_true rfl, Nat.le_of_ble_eq_true rfl⟩) hE.2.2.2 (fun q _ h => mE_A hE q h) (mE_A hE) (fun r uq tq H locs ht hvm hw hB hz1 hk1 hS => ?_)
          obtain ⟨rfl, rfl⟩ := hw
          have hE : mE G (mA ad (Sy cy ad n k v (Si cy ad n k u x)) s.heap.size) s.heap ad1 (Sy cy ad1 n k v (Si cy ad1 n k u (mU x (40 + k) (mI cy 3 (upd ((fun _ => 0)) 0 (nI c)))))) H locs := mE_call hE hB ht hS
          refine mx_iast hx hb hN hE ((S_r (by omega) (by omega)).trans ((Q_r (by unfold jIs; omega)).trans (mU_s _ _ _))) (j := 1) rfl (by omega) (by decide) dL_act_158 (fun H locs hE => ?_)
          have hE : mE G (mA ad (Sy cy ad n k v (Si cy ad n k u x)) s.heap.size) s.heap ad1 (Sy cy ad1 n k v (Si cy ad1 n k u (mU x (40 + k) (mI cy 3 (upd ((upd ((fun _ => 0)) 0 (nI c))) 1 (mS (u (20 + c)) 1)))))) H locs := by rw [S_ux (by omega) (by omega), Q_ux (by unfold jIs; omega), jU_uu] at hE; exact hE
          refine lv_dup hx hb dL_act_159 rfl ?_
          refine lv_iconst (v := nI 2) hx hb dL_act_160 (by decide) ?_
          refine lv_aload_n hx hb dL_act_161 rfl (lv_at hl 4 rfl) ?_
          refine va_get (D := G) (ci := 3) (v := .ref (ad1 7)) (C := RX3) (T := TX3) (N := 3) hx hb hts hiX3 hown hN.1 (mE_P1 hE ((S_r (by omega) (by omega)).trans (Q_4))) 0 rfl rfl 2 (by decide) (hts (.fieldLink RL 38 "SealedCupboardsLaw$Sim" "changes" "[I") (by decide +kernel)) (fun _ h9 => h9) rfl dL_act_162 ?_
          refine lv_iload hx hb dL_act_165 (lv_at hl 1 rfl) ?_
          refine mx_iald hx hb hN hE ((S_r (by omega) (by omega)).trans ((Q_7e rfl))) (j := c) rfl (by omega) (by decide) dL_act_167 ?_
          refine mx_iast hx hb hN hE ((S_r (by omega) (by omega)).trans ((Q_r (by unfold jIs; omega)).trans (mU_s _ _ _))) (j := 2) rfl (by omega) (by decide) dL_act_168 (fun H locs hE => ?_)
          have hE : mE G (mA ad (Sy cy ad n k v (Si cy ad n k u x)) s.heap.size) s.heap ad1 (Sy cy ad1 n k v (Si cy ad1 n k u (mU x (40 + k) (mI cy 3 (upd ((upd ((upd ((fun _ => 0)) 0 (nI c))) 1 (mS (u (20 + c)) 1))) 2 (u 7 c)))))) H locs := by rw [S_ux (by omega) (by omega), Q_ux (by unfold jIs; omega), jU_uu] at hE; exact hE
          have m8 : (Sy cy ad1 n k v (Si cy ad1 n k u (mU x (40 + k) (mI cy 3 (upd ((upd ((upd ((fun _ => 0)) 0 (nI c))) 1 (mS (u (20 + c)) 1))) 2 (u 7 c)))))) 8 = none := (S_r (by decide) (by decide)).trans ((Q_r (by unfold jIs; omega)).trans ((mU_n _ _ (by omega)).trans (hx70 8 (by decide))))
          have m1 : ∀ i, i ≤ k → ∃ (n9 : Nat) (g : Nat → Int32), (Sy cy ad1 n k v (Si cy ad1 n k u (mU x (40 + k) (mI cy 3 (upd ((upd ((upd ((fun _ => 0)) 0 (nI c))) 1 (mS (u (20 + c)) 1))) 2 (u 7 c)))))) (40 + i) = some (mI cy n9 g) := fun i hi => if h9 : i < k then ⟨_, _, (S_r (by omega) (by omega)).trans (Q_s hn h9)⟩ else ⟨3, (upd ((upd ((upd ((fun _ => 0)) 0 (nI c))) 1 (mS (u (20 + c)) 1))) 2 (u 7 c)), by rw [show i = k by omega]; exact (S_r (by omega) (by omega)).trans ((Q_r (by unfold jIs; omega)).trans (mU_s _ _ _))⟩
          refine va_callq (va_runS (As := [.ref (ad1 6), .ref (ad1 (40 + k))]) (rest := [.ref (ad1 4)]) ⟨hx, hb, hml, hown, hts⟩ (c_X3_more l G cy ad1 (Sy cy ad1 n k v (Si cy ad1 n k u (mU x (40 + k) (mI cy 3 (upd ((upd ((upd ((fun _ => 0)) 0 (nI c))) 1 (mS (u (20 + c)) 1))) 2 (u 7 c)))))) _ 6 40 k (by omega) (by decide) (by decide) ((S_r (by decide) (by decide)).trans Q_6) m1 m8) (va_cwS 2 hts gL_act_X3_more rfl rfl rfl (by decide +kernel) ⟨Nat.le_of_ble_eq_true rfl, Nat.le_of_ble_eq_true rfl⟩) (mP_S hN hE) rfl rfl hl.1 rfl (lv_room (Nat.le_of_ble_eq_true rfl)) dL_act_169 ⟨Nat.le_of_ble_eq_true rfl, Nat.le_of_ble_eq_true rfl⟩) hE.2.2.2 (fun q _ h => mE_A hE q h) (mE_A hE) (fun r uq tq H locs ht hvm hw hB hz1 hk1 hS => ?_)
          obtain ⟨ad2, M2⟩ := uq
          obtain ⟨wr, wa, wm⟩ := hw
          have wr : r = some (ad2 8) := wr
          have wa : ∀ j, j ≠ 8 → ad2 j = ad1 j := wa
          have wm : M2 = mU (Sy cy ad1 n k v (Si cy ad1 n k u (mU x (40 + k) (mI cy 3 (upd ((upd ((upd ((fun _ => 0)) 0 (nI c))) 1 (mS (u (20 + c)) 1))) 2 (u 7 c)))))) 8 (mRR cy ad2 (k + 1) (k + 1) 40) := wm
          subst wr
          have hE : mE G (mA ad (Sy cy ad n k v (Si cy ad n k u x)) s.heap.size) s.heap ad2 M2 H locs := mE_call hE hB ht hS
          rw [wm, Q_ad (ad' := ad2) (fun j hj => wa j (by unfold jIs at hj; omega)), S_adc (ad' := ad2) (fun j hj => wa j (by omega))] at hE
          rw [← wa 0 (by decide), ← wa 4 (by decide)] at hl
          rw [← wa 4 (by decide)]
          refine mx_put (ci := 3) (v := .ref (ad2 8)) (ty := .array (.array .int)) (C := RX3) (T := TX3) (N := 3) hx hb hts hiX3 tyX3 tyX3_ok nmX3 hown hN hE ((mU_n _ _ (by decide)).trans ((S_r (by decide) (by decide)).trans Q_4)) rfl 1 (by decide) (hts (.fieldLink RL 31 "SealedCupboardsLaw$Sim" "seals" "[[I") (by decide +kernel)) (fun _ h9 => h9) rfl (by decide +kernel) rfl rfl (Nat.le_of_ble_eq_true rfl) dL_act_172 (fun H locs hE => ?_)
          obtain ⟨ad3, h3, hE⟩ := R_seals hn (by omega) hx70 hE
          rw [← h3 0 (by decide), ← h3 4 (by decide)] at hl
          refine lv_aload_n hx hb dL_act_175 rfl (lv_at hl 3 rfl) ?_
          refine lv_iload hx hb dL_act_176 (lv_at hl 1 rfl) ?_
          refine va_calli (va_runV (As := [.int (nI c)]) (rest := []) ⟨hx, hb, hml, hown, hts⟩ (c_X2_seal l G cy ad3 n k v (Si cy ad3 n (k + 1) (va_up u (40 + k) (upd ((upd ((upd ((fun _ => 0)) 0 (nI c))) 1 (mS (u (20 + c)) 1))) 2 (u 7 c))) x) hn hk _ c h_c (by omega)) (cwV 1 hts gL_act_X2_seal rfl rfl rfl (by decide +kernel) ⟨Nat.le_of_ble_eq_true rfl, Nat.le_of_ble_eq_true rfl⟩) (mP_V (r := (RX2, TX2, 5)) hN hE S_0 rfl) rfl rfl hl.1 rfl (lv_room (Nat.le_of_ble_eq_true rfl)) dL_act_178 ⟨Nat.le_of_ble_eq_true rfl, Nat.le_of_ble_eq_true rfl⟩) hE.2.2.2 (fun q _ h => mE_A hE q h) (mE_A hE) (fun r uq tq H locs ht hvm hw hB hz1 hk1 hS => ?_)
          obtain ⟨rfl, ad4, wu, wa4⟩ := hw
          subst wu
          have wa4 : ∀ j, mIs n k j → ad4 j = ad3 j := wa4
          have hE : mE G (mA ad (Sy cy ad n k v (Si cy ad n k u x)) s.heap.size) s.heap ad4 (Sy cy ad4 n (k + 1) (va_up v (400 + k) (mV3 (nI c) (v (300 + c) 1) (v (100 + c) 2))) (Si cy ad4 n (k + 1) (va_up u (40 + k) (upd ((upd ((upd ((fun _ => 0)) 0 (nI c))) 1 (mS (u (20 + c)) 1))) 2 (u 7 c))) x)) H locs := by rw [← Q_ad (ad := ad3) (fun j hj => wa4 j (by unfold mIs; unfold jIs at hj; omega))]; exact mE_call hE hB ht hS
          rw [← wa4 0 (by unfold mIs; omega), ← wa4 4 (by unfold mIs; omega)] at hl
          refine lv_aload_n hx hb dL_act_181 rfl (lv_at hl 4 rfl) ?_
          refine va_get (D := G) (ci := 3) (v := .ref (ad4 6)) (C := RX3) (T := TX3) (N := 3) hx hb hts hiX3 hown hN.1 (mE_P1 hE ((S_r (by omega) (by omega)).trans (Q_4))) 0 rfl rfl 1 (by decide) (hts (.fieldLink RL 31 "SealedCupboardsLaw$Sim" "seals" "[[I") (by decide +kernel)) (fun _ h9 => h9) rfl dL_act_182 ?_
          refine va_alen (v := nI (k + 1)) hx hb hN.1 (mE_P1 hE ((S_r (by omega) (by omega)).trans (Q_6))) 0 3 rfl rfl rfl dL_act_185 ?_
          refine lv_iconst (v := nI 1) hx hb dL_act_186 (by decide) ?_
          refine mv_isub (z := nI ((k + 1) - 1)) hx hb (pk_sub (by omega)) dL_act_187 ?_
          refine mv_ne (tgt := 195) hx hb (by omega) (by omega) dL_act_188 (by decide) (fun c6 => ?_) (fun c6 => ?_)
          · skip
            exfalso; omega
          · skip
            refine lv_iconst (v := nI 1) hx hb dL_act_191 (by decide) ?_
            refine lv_goto (tgt := 196) hx hb dL_act_192 (by decide) ?_
            refine W.widen (k := 6) (n := 100) (by omega) (by omega) ?_
            exact mx_zret hx hb hr rfl hE hlocks ⟨rfl, ad4, _, _, _, _, C, va_up cs k c, va_up ms k (C c), rfl, fun j hj => (wa4 j (by unfold mIs; omega)).trans ((h3 j (by omega)).trans ((wa j (by omega)).trans (hj1 j (by omega)))), jV_T (jV_seal hJ (by omega) h_c (by rw [upd_n _ _ (by decide), upd_n _ _ (by decide), upd_s]) (by rw [upd_n _ _ (by decide), upd_s]; exact (jV_S hJ h_c 1 (by decide) (by decide)).symm) (by rw [upd_s]; exact (hJ.2.2.1 c h_c).2.2.2.1.trans (hJ.2.2.1 c h_c).2.2.2.2.1.symm)) (by omega), Nat.le_refl _, by omega, by omega, fun i hi => Nat.le_refl _, fun j hj => va_up_n _ _ (by omega)⟩ dL_act_196
        · skip
          refine lv_iconst (v := nI 1) hx hb dL_act_135 (by decide) ?_
          refine W.widen (k := 6) (n := 100) (by omega) (by omega) ?_
          exact mx_zret hx hb hr rfl hE hlocks ⟨rfl, ad, _, _, _, _, C, cs, ms, rfl, fun j _ => rfl, jV_T hJ (by omega), Nat.le_refl _, by omega, Nat.le_refl _, fun i hi => Nat.le_refl _, fun j hj => rfl⟩ dL_act_136
      · skip
        refine lv_tableIn (off := 77) (tgt := 125) hx hb dL_act_48 (by decide) (by decide) rfl (by decide) ?_
        refine lv_aload_n hx hb dL_act_125 rfl (lv_at hl 4 rfl) ?_
        refine va_get (D := G) (ci := 3) (v := .ref (ad 6)) (C := RX3) (T := TX3) (N := 3) hx hb hts hiX3 hown hN.1 (mE_P1 hE ((S_r (by omega) (by omega)).trans (Q_4))) 0 rfl rfl 1 (by decide) (hts (.fieldLink RL 31 "SealedCupboardsLaw$Sim" "seals" "[[I") (by decide +kernel)) (fun _ h9 => h9) rfl dL_act_126 ?_
        refine va_alen (v := nI k) hx hb hN.1 (mE_P1 hE ((S_r (by omega) (by omega)).trans (Q_6))) 0 3 rfl rfl rfl dL_act_129 ?_
        refine lv_bipush (v := nI 20) hx hb dL_act_130 (by decide) ?_
        refine mv_ne (tgt := 137) hx hb (by omega) (by omega) dL_act_132 (by decide) (fun c7 => ?_) (fun c7 => ?_)
        · skip
          refine lv_aload_n hx hb dL_act_137 rfl (lv_at hl 4 rfl) ?_
          refine lv_aload_n hx hb dL_act_138 rfl (lv_at hl 4 rfl) ?_
          refine va_get (D := G) (ci := 3) (v := .ref (ad 6)) (C := RX3) (T := TX3) (N := 3) hx hb hts hiX3 hown hN.1 (mE_P1 hE ((S_r (by omega) (by omega)).trans (Q_4))) 0 rfl rfl 1 (by decide) (hts (.fieldLink RL 31 "SealedCupboardsLaw$Sim" "seals" "[[I") (by decide +kernel)) (fun _ h9 => h9) rfl dL_act_139 ?_
          refine lv_iconst (v := nI 3) hx hb dL_act_142 (by decide) ?_
          refine mx_newi hx hb (hts (.arrayClass .int) (by decide +kernel)) hN hE (40 + k) ((S_r (by omega) (by omega)).trans ((Q_r (by unfold jIs; omega)).trans (hx70 _ (by omega)))) (by omega) rfl (by decide) (Nat.le_of_ble_eq_true rfl) (Nat.le_of_ble_eq_true rfl) dL_act_143 (fun ad1 H hj1 hE => ?_)
          rw [← hj1 0 (by omega), ← hj1 4 (by omega)] at hl
          rw [← hj1 4 (by omega), ← hj1 6 (by omega)]
          have w1 : mU (Sy cy ad n k v (Si cy ad n k u x)) (40 + k) (mI cy 3 (fun _ => 0)) = Sy cy ad1 n k v (Si cy ad1 n k u (mU x (40 + k) (mI cy 3 (fun _ => 0)))) := by rw [S_ux (by omega) (by omega), Q_ux (by unfold jIs; omega), Q_ad (ad' := ad1) (fun j hj => hj1 j (by unfold jIs at hj; omega)), S_adc (ad' := ad1) (fun j hj => hj1 j (by omega))]
          rw [w1] at hE
          refine lv_dup hx hb dL_act_145 rfl ?_
          refine lv_iconst (v := nI 0) hx hb dL_act_146 (by decide) ?_
          refine lv_iload hx hb dL_act_147 (lv_at hl 1 rfl) ?_
          refine mx_iast hx hb hN hE ((S_r (by omega) (by omega)).trans ((Q_r (by unfold jIs; omega)).trans (mU_s _ _ _))) (j := 0) rfl (by omega) (by decide) dL_act_149 (fun H locs hE => ?_)
          have hE : mE G (mA ad (Sy cy ad n k v (Si cy ad n k u x)) s.heap.size) s.heap ad1 (Sy cy ad1 n k v (Si cy ad1 n k u (mU x (40 + k) (mI cy 3 (upd ((fun _ => 0)) 0 (nI c)))))) H locs := by rw [S_ux (by omega) (by omega), Q_ux (by unfold jIs; omega), jU_uu] at hE; exact hE
          refine lv_dup hx hb dL_act_150 rfl ?_
          refine lv_iconst (v := nI 1) hx hb dL_act_151 (by decide) ?_
          refine lv_aload_n hx hb dL_act_152 rfl (lv_at hl 4 rfl) ?_
          refine lv_iload hx hb dL_act_153 (lv_at hl 1 rfl) ?_
          refine va_calli (va_runV (As := [.int (nI c)]) (rest := [.int (nI 1), .ref (ad1 (40 + k)), .ref (ad1 (40 + k)), .ref (ad1 6), .ref (ad1 4)]) ⟨hx, hb, hml, hown, hts⟩ (b_X3_root l G cy ad1 n k v n k u (mU x (40 + k) (mI cy 3 (upd ((fun _ => 0)) 0 (nI c)))) hn hk _ c h_c) (cwV 1 hts gL_act_X3_root rfl rfl rfl (by decide +kernel) ⟨Nat.le_of_ble_eq_true rfl, Nat.le_of_ble_eq_true rfl⟩) (mP_V (r := (RX3, TX3, 3)) hN hE ((S_r (by omega) (by omega)).trans (Q_4)) rfl) rfl rfl hl.1 rfl (lv_room (Nat.le_of_ble_eq_true rfl)) dL_act_155 ⟨Nat.le_of_ble_eq_true rfl, Nat.le_of_ble_eq_true rfl⟩) hE.2.2.2 (fun q _ h => mE_A hE q h) (mE_A hE) (fun r uq tq H locs ht hvm hw hB hz1 hk1 hS => ?_)
          obtain ⟨rfl, rfl⟩ := hw
          have hE : mE G (mA ad (Sy cy ad n k v (Si cy ad n k u x)) s.heap.size) s.heap ad1 (Sy cy ad1 n k v (Si cy ad1 n k u (mU x (40 + k) (mI cy 3 (upd ((fun _ => 0)) 0 (nI c)))))) H locs := mE_call hE hB ht hS
          refine mx_iast hx hb hN hE ((S_r (by omega) (by omega)).trans ((Q_r (by unfold jIs; omega)).trans (mU_s _ _ _))) (j := 1) rfl (by omega) (by decide) dL_act_158 (fun H locs hE => ?_)
          have hE : mE G (mA ad (Sy cy ad n k v (Si cy ad n k u x)) s.heap.size) s.heap ad1 (Sy cy ad1 n k v (Si cy ad1 n k u (mU x (40 + k) (mI cy 3 (upd ((upd ((fun _ => 0)) 0 (nI c))) 1 (mS (u (20 + c)) 1)))))) H locs := by rw [S_ux (by omega) (by omega), Q_ux (by unfold jIs; omega), jU_uu] at hE; exact hE
          refine lv_dup hx hb dL_act_159 rfl ?_
          refine lv_iconst (v := nI 2) hx hb dL_act_160 (by decide) ?_
          refine lv_aload_n hx hb dL_act_161 rfl (lv_at hl 4 rfl) ?_
          refine va_get (D := G) (ci := 3) (v := .ref (ad1 7)) (C := RX3) (T := TX3) (N := 3) hx hb hts hiX3 hown hN.1 (mE_P1 hE ((S_r (by omega) (by omega)).trans (Q_4))) 0 rfl rfl 2 (by decide) (hts (.fieldLink RL 38 "SealedCupboardsLaw$Sim" "changes" "[I") (by decide +kernel)) (fun _ h9 => h9) rfl dL_act_162 ?_
          refine lv_iload hx hb dL_act_165 (lv_at hl 1 rfl) ?_
          refine mx_iald hx hb hN hE ((S_r (by omega) (by omega)).trans ((Q_7e rfl))) (j := c) rfl (by omega) (by decide) dL_act_167 ?_
          refine mx_iast hx hb hN hE ((S_r (by omega) (by omega)).trans ((Q_r (by unfold jIs; omega)).trans (mU_s _ _ _))) (j := 2) rfl (by omega) (by decide) dL_act_168 (fun H locs hE => ?_)
          have hE : mE G (mA ad (Sy cy ad n k v (Si cy ad n k u x)) s.heap.size) s.heap ad1 (Sy cy ad1 n k v (Si cy ad1 n k u (mU x (40 + k) (mI cy 3 (upd ((upd ((upd ((fun _ => 0)) 0 (nI c))) 1 (mS (u (20 + c)) 1))) 2 (u 7 c)))))) H locs := by rw [S_ux (by omega) (by omega), Q_ux (by unfold jIs; omega), jU_uu] at hE; exact hE
          have m8 : (Sy cy ad1 n k v (Si cy ad1 n k u (mU x (40 + k) (mI cy 3 (upd ((upd ((upd ((fun _ => 0)) 0 (nI c))) 1 (mS (u (20 + c)) 1))) 2 (u 7 c)))))) 8 = none := (S_r (by decide) (by decide)).trans ((Q_r (by unfold jIs; omega)).trans ((mU_n _ _ (by omega)).trans (hx70 8 (by decide))))
          have m1 : ∀ i, i ≤ k → ∃ (n9 : Nat) (g : Nat → Int32), (Sy cy ad1 n k v (Si cy ad1 n k u (mU x (40 + k) (mI cy 3 (upd ((upd ((upd ((fun _ => 0)) 0 (nI c))) 1 (mS (u (20 + c)) 1))) 2 (u 7 c)))))) (40 + i) = some (mI cy n9 g) := fun i hi => if h9 : i < k then ⟨_, _, (S_r (by omega) (by omega)).trans (Q_s hn h9)⟩ else ⟨3, (upd ((upd ((upd ((fun _ => 0)) 0 (nI c))) 1 (mS (u (20 + c)) 1))) 2 (u 7 c)), by rw [show i = k by omega]; exact (S_r (by omega) (by omega)).trans ((Q_r (by unfold jIs; omega)).trans (mU_s _ _ _))⟩
          refine va_callq (va_runS (As := [.ref (ad1 6), .ref (ad1 (40 + k))]) (rest := [.ref (ad1 4)]) ⟨hx, hb, hml, hown, hts⟩ (c_X3_more l G cy ad1 (Sy cy ad1 n k v (Si cy ad1 n k u (mU x (40 + k) (mI cy 3 (upd ((upd ((upd ((fun _ => 0)) 0 (nI c))) 1 (mS (u (20 + c)) 1))) 2 (u 7 c)))))) _ 6 40 k (by omega) (by decide) (by decide) ((S_r (by decide) (by decide)).trans Q_6) m1 m8) (va_cwS 2 hts gL_act_X3_more rfl rfl rfl (by decide +kernel) ⟨Nat.le_of_ble_eq_true rfl, Nat.le_of_ble_eq_true rfl⟩) (mP_S hN hE) rfl rfl hl.1 rfl (lv_room (Nat.le_of_ble_eq_true rfl)) dL_act_169 ⟨Nat.le_of_ble_eq_true rfl, Nat.le_of_ble_eq_true rfl⟩) hE.2.2.2 (fun q _ h => mE_A hE q h) (mE_A hE) (fun r uq tq H locs ht hvm hw hB hz1 hk1 hS => ?_)
          obtain ⟨ad2, M2⟩ := uq
          obtain ⟨wr, wa, wm⟩ := hw
          have wr : r = some (ad2 8) := wr
          have wa : ∀ j, j ≠ 8 → ad2 j = ad1 j := wa
          have wm : M2 = mU (Sy cy ad1 n k v (Si cy ad1 n k u (mU x (40 + k) (mI cy 3 (upd ((upd ((upd ((fun _ => 0)) 0 (nI c))) 1 (mS (u (20 + c)) 1))) 2 (u 7 c)))))) 8 (mRR cy ad2 (k + 1) (k + 1) 40) := wm
          subst wr
          have hE : mE G (mA ad (Sy cy ad n k v (Si cy ad n k u x)) s.heap.size) s.heap ad2 M2 H locs := mE_call hE hB ht hS
          rw [wm, Q_ad (ad' := ad2) (fun j hj => wa j (by unfold jIs at hj; omega)), S_adc (ad' := ad2) (fun j hj => wa j (by omega))] at hE
          rw [← wa 0 (by decide), ← wa 4 (by decide)] at hl
          rw [← wa 4 (by decide)]
          refine mx_put (ci := 3) (v := .ref (ad2 8)) (ty := .array (.array .int)) (C := RX3) (T := TX3) (N := 3) hx hb hts hiX3 tyX3 tyX3_ok nmX3 hown hN hE ((mU_n _ _ (by decide)).trans ((S_r (by decide) (by decide)).trans Q_4)) rfl 1 (by decide) (hts (.fieldLink RL 31 "SealedCupboardsLaw$Sim" "seals" "[[I") (by decide +kernel)) (fun _ h9 => h9) rfl (by decide +kernel) rfl rfl (Nat.le_of_ble_eq_true rfl) dL_act_172 (fun H locs hE => ?_)
          obtain ⟨ad3, h3, hE⟩ := R_seals hn (by omega) hx70 hE
          rw [← h3 0 (by decide), ← h3 4 (by decide)] at hl
          refine lv_aload_n hx hb dL_act_175 rfl (lv_at hl 3 rfl) ?_
          refine lv_iload hx hb dL_act_176 (lv_at hl 1 rfl) ?_
          refine va_calli (va_runV (As := [.int (nI c)]) (rest := []) ⟨hx, hb, hml, hown, hts⟩ (c_X2_seal l G cy ad3 n k v (Si cy ad3 n (k + 1) (va_up u (40 + k) (upd ((upd ((upd ((fun _ => 0)) 0 (nI c))) 1 (mS (u (20 + c)) 1))) 2 (u 7 c))) x) hn hk _ c h_c (by omega)) (cwV 1 hts gL_act_X2_seal rfl rfl rfl (by decide +kernel) ⟨Nat.le_of_ble_eq_true rfl, Nat.le_of_ble_eq_true rfl⟩) (mP_V (r := (RX2, TX2, 5)) hN hE S_0 rfl) rfl rfl hl.1 rfl (lv_room (Nat.le_of_ble_eq_true rfl)) dL_act_178 ⟨Nat.le_of_ble_eq_true rfl, Nat.le_of_ble_eq_true rfl⟩) hE.2.2.2 (fun q _ h => mE_A hE q h) (mE_A hE) (fun r uq tq H locs ht hvm hw hB hz1 hk1 hS => ?_)
          obtain ⟨rfl, ad4, wu, wa4⟩ := hw
          subst wu
          have wa4 : ∀ j, mIs n k j → ad4 j = ad3 j := wa4
          have hE : mE G (mA ad (Sy cy ad n k v (Si cy ad n k u x)) s.heap.size) s.heap ad4 (Sy cy ad4 n (k + 1) (va_up v (400 + k) (mV3 (nI c) (v (300 + c) 1) (v (100 + c) 2))) (Si cy ad4 n (k + 1) (va_up u (40 + k) (upd ((upd ((upd ((fun _ => 0)) 0 (nI c))) 1 (mS (u (20 + c)) 1))) 2 (u 7 c))) x)) H locs := by rw [← Q_ad (ad := ad3) (fun j hj => wa4 j (by unfold mIs; unfold jIs at hj; omega))]; exact mE_call hE hB ht hS
          rw [← wa4 0 (by unfold mIs; omega), ← wa4 4 (by unfold mIs; omega)] at hl
          refine lv_aload_n hx hb dL_act_181 rfl (lv_at hl 4 rfl) ?_
          refine va_get (D := G) (ci := 3) (v := .ref (ad4 6)) (C := RX3) (T := TX3) (N := 3) hx hb hts hiX3 hown hN.1 (mE_P1 hE ((S_r (by omega) (by omega)).trans (Q_4))) 0 rfl rfl 1 (by decide) (hts (.fieldLink RL 31 "SealedCupboardsLaw$Sim" "seals" "[[I") (by decide +kernel)) (fun _ h9 => h9) rfl dL_act_182 ?_
          refine va_alen (v := nI (k + 1)) hx hb hN.1 (mE_P1 hE ((S_r (by omega) (by omega)).trans (Q_6))) 0 3 rfl rfl rfl dL_act_185 ?_
          refine lv_iconst (v := nI 1) hx hb dL_act_186 (by decide) ?_
          refine mv_isub (z := nI ((k + 1) - 1)) hx hb (pk_sub (by omega)) dL_act_187 ?_
          refine mv_ne (tgt := 195) hx hb (by omega) (by omega) dL_act_188 (by decide) (fun c8 => ?_) (fun c8 => ?_)
          · skip
            exfalso; omega
          · skip
            refine lv_iconst (v := nI 1) hx hb dL_act_191 (by decide) ?_
            refine lv_goto (tgt := 196) hx hb dL_act_192 (by decide) ?_
            refine W.widen (k := 6) (n := 100) (by omega) (by omega) ?_
            exact mx_zret hx hb hr rfl hE hlocks ⟨rfl, ad4, _, _, _, _, C, va_up cs k c, va_up ms k (C c), rfl, fun j hj => (wa4 j (by unfold mIs; omega)).trans ((h3 j (by omega)).trans ((wa j (by omega)).trans (hj1 j (by omega)))), jV_T (jV_seal hJ (by omega) h_c (by rw [upd_n _ _ (by decide), upd_n _ _ (by decide), upd_s]) (by rw [upd_n _ _ (by decide), upd_s]; exact (jV_S hJ h_c 1 (by decide) (by decide)).symm) (by rw [upd_s]; exact (hJ.2.2.1 c h_c).2.2.2.1.trans (hJ.2.2.1 c h_c).2.2.2.2.1.symm)) (by omega), Nat.le_refl _, by omega, by omega, fun i hi => Nat.le_refl _, fun j hj => va_up_n _ _ (by omega)⟩ dL_act_196
        · skip
          refine lv_iconst (v := nI 1) hx hb dL_act_135 (by decide) ?_
          refine W.widen (k := 6) (n := 100) (by omega) (by omega) ?_
          exact mx_zret hx hb hr rfl hE hlocks ⟨rfl, ad, _, _, _, _, C, cs, ms, rfl, fun j _ => rfl, jV_T hJ (by omega), Nat.le_refl _, by omega, Nat.le_refl _, fun i hi => Nat.le_refl _, fun j hj => rfl⟩ dL_act_136
      · skip
        refine lv_tableIn (off := 149) (tgt := 197) hx hb dL_act_48 (by decide) (by decide) rfl (by decide) ?_
        refine lv_aload_n hx hb dL_act_197 rfl (lv_at hl 3 rfl) ?_
        refine lv_iload hx hb dL_act_198 (lv_at hl 1 rfl) ?_
        refine lv_iload hx hb dL_act_200 (lv_at hl 0 rfl) ?_
        refine lv_iload_n hx hb dL_act_202 rfl (lv_at hl 5 rfl) ?_
        refine lv_iconst (v := nI 5) hx hb dL_act_203 (by decide) ?_
        refine mv_ishr (z := xv >>> ((nI 5) &&& 31)) hx hb rfl dL_act_204 ?_
        refine lv_bipush (v := nI 16) hx hb dL_act_205 (by decide) ?_
        refine va_calli (va_runS (As := [.int (xv >>> ((nI 5) &&& 31)), .int (nI 16)]) (rest := [.int (nI d), .int (nI c), .ref (ad 0)]) ⟨hx, hb, hml, hown, hts⟩ (c_L_below l G cy ad (Sy cy ad n k v (Si cy ad n k u x)) _ (xv >>> ((nI 5) &&& 31)) 16 (by omega) (by omega)) (va_cwS 2 hts gL_act_L_below rfl rfl rfl (by decide +kernel) ⟨Nat.le_of_ble_eq_true rfl, Nat.le_of_ble_eq_true rfl⟩) (mP_S hN hE) rfl rfl hl.1 rfl (lv_room (Nat.le_of_ble_eq_true rfl)) dL_act_207 ⟨Nat.le_of_ble_eq_true rfl, Nat.le_of_ble_eq_true rfl⟩) hE.2.2.2 (fun q _ h => mE_A hE q h) (mE_A hE) (fun r uq tq H locs ht hvm hw hB hz1 hk1 hS => ?_)
        obtain ⟨rfl, rfl⟩ := hw
        have hE : mE G (mA ad (Sy cy ad n k v (Si cy ad n k u x)) s.heap.size) s.heap ad (Sy cy ad n k v (Si cy ad n k u x)) H locs := mE_call hE hB ht hS
        obtain ⟨b9, hq_b9⟩ : ∃ y99, y99 = jBe (xv >>> ((nI 5) &&& 31)) 16 := ⟨_, rfl⟩
        rw [← hq_b9]
        have h_b9 : b9 < 16 := by rw [hq_b9]; exact jBe_lt _ (by omega)
        refine va_calli (va_runV (As := [.int (nI c), .int (nI d), .int (nI b9)]) (rest := []) ⟨hx, hb, hml, hown, hts⟩ (c_X2_swap l G cy ad n k v (Si cy ad n k u x) hn hk _ c h_c d b9 (by omega) (by omega)) (cwV 3 hts gL_act_X2_swap rfl rfl rfl (by decide +kernel) ⟨Nat.le_of_ble_eq_true rfl, Nat.le_of_ble_eq_true rfl⟩) (mP_V (r := (RX2, TX2, 5)) hN hE S_0 rfl) rfl rfl hl.1 rfl (lv_room (Nat.le_of_ble_eq_true rfl)) dL_act_210 ⟨Nat.le_of_ble_eq_true rfl, Nat.le_of_ble_eq_true rfl⟩) hE.2.2.2 (fun q _ h => mE_A hE q h) (mE_A hE) (fun r uq tq H locs ht hvm hw hB hz1 hk1 hS => ?_)
        obtain ⟨rfl, rfl⟩ := hw
        have hE : mE G (mA ad (Sy cy ad n k v (Si cy ad n k u x)) s.heap.size) s.heap ad (Sy cy ad n k (mSwap v c d b9) (Si cy ad n k u x)) H locs := mE_call hE hB ht hS
        refine lv_aload_n hx hb dL_act_213 rfl (lv_at hl 4 rfl) ?_
        refine lv_iload hx hb dL_act_214 (lv_at hl 1 rfl) ?_
        refine lv_iload hx hb dL_act_216 (lv_at hl 0 rfl) ?_
        refine lv_iload_n hx hb dL_act_218 rfl (lv_at hl 5 rfl) ?_
        refine lv_iconst (v := nI 5) hx hb dL_act_219 (by decide) ?_
        refine mv_ishr (z := xv >>> ((nI 5) &&& 31)) hx hb rfl dL_act_220 ?_
        refine lv_bipush (v := nI 16) hx hb dL_act_221 (by decide) ?_
        refine va_calli (va_runS (As := [.int (xv >>> ((nI 5) &&& 31)), .int (nI 16)]) (rest := [.int (nI d), .int (nI c), .ref (ad 4), .int (nI (mApart (mSwap v c d b9 3) (mSwap v c d b9 (300 + c)) 31))]) ⟨hx, hb, hml, hown, hts⟩ (c_L_below l G cy ad (Sy cy ad n k (mSwap v c d b9) (Si cy ad n k u x)) _ (xv >>> ((nI 5) &&& 31)) 16 (by omega) (by omega)) (va_cwS 2 hts gL_act_L_below rfl rfl rfl (by decide +kernel) ⟨Nat.le_of_ble_eq_true rfl, Nat.le_of_ble_eq_true rfl⟩) (mP_S hN hE) rfl rfl hl.1 rfl (lv_room (Nat.le_of_ble_eq_true rfl)) dL_act_223 ⟨Nat.le_of_ble_eq_true rfl, Nat.le_of_ble_eq_true rfl⟩) hE.2.2.2 (fun q _ h => mE_A hE q h) (mE_A hE) (fun r uq tq H locs ht hvm hw hB hz1 hk1 hS => ?_)
        obtain ⟨rfl, rfl⟩ := hw
        have hE : mE G (mA ad (Sy cy ad n k v (Si cy ad n k u x)) s.heap.size) s.heap ad (Sy cy ad n k (mSwap v c d b9) (Si cy ad n k u x)) H locs := mE_call hE hB ht hS
        rw [← hq_b9]
        refine va_calli (va_runV (As := [.int (nI c), .int (nI d), .int (nI b9)]) (rest := [.int (nI (mApart (mSwap v c d b9 3) (mSwap v c d b9 (300 + c)) 31))]) ⟨hx, hb, hml, hown, hts⟩ (b_X3_swap l G cy ad n k (mSwap v c d b9) n k u x hn hk _ c d b9 h_c (by omega) (by omega) (hx70 60 (by decide))) (cwV 3 hts gL_act_X3_swap rfl rfl rfl (by decide +kernel) ⟨Nat.le_of_ble_eq_true rfl, Nat.le_of_ble_eq_true rfl⟩) (mP_V (r := (RX3, TX3, 3)) hN hE ((S_r (by omega) (by omega)).trans (Q_4)) rfl) rfl rfl hl.1 rfl (lv_room (Nat.le_of_ble_eq_true rfl)) dL_act_226 ⟨Nat.le_of_ble_eq_true rfl, Nat.le_of_ble_eq_true rfl⟩) hE.2.2.2 (fun q _ h => mE_A hE q h) (mE_A hE) (fun r uq tq H locs ht hvm hw hB hz1 hk1 hS => ?_)
        obtain ⟨rfl, rfl⟩ := hw
        have hE : mE G (mA ad (Sy cy ad n k v (Si cy ad n k u x)) s.heap.size) s.heap ad (Sy cy ad n k (mSwap v c d b9) (Si cy ad n k (jSwap u c d b9) x)) H locs := mE_call hE hB ht hS
        rw [jSwap_ans hJ h_c h_d h_b9]
        have hap := mApart_le (mS (u (20 + c))) (mS ((jSwap u c d b9) (20 + c))) 31
        refine mv_ne (tgt := 236) hx hb (by omega) (by omega) dL_act_229 (by decide) (fun c9 => ?_) (fun c9 => ?_)
        · skip
          exact absurd rfl c9
        · skip
          refine lv_iconst (v := nI 1) hx hb dL_act_232 (by decide) ?_
          refine lv_goto (tgt := 237) hx hb dL_act_233 (by decide) ?_
          obtain ⟨C1, j1, l1⟩ := jV_swap hJ h_c h_d h_b9
          refine W.widen (k := 6) (n := 100) (by omega) (by omega) ?_
          exact mx_zret hx hb hr rfl hE hlocks ⟨rfl, ad, _, _, _, _, C1, cs, ms, rfl, fun j _ => rfl, jV_T j1 (by omega), Nat.le_refl _, by omega, Nat.le_refl _, fun i hi => l1 i, jSl_swap (by omega) hk⟩ dL_act_237
      · skip
        refine lv_tableIn (off := 149) (tgt := 197) hx hb dL_act_48 (by decide) (by decide) rfl (by decide) ?_
        refine lv_aload_n hx hb dL_act_197 rfl (lv_at hl 3 rfl) ?_
        refine lv_iload hx hb dL_act_198 (lv_at hl 1 rfl) ?_
        refine lv_iload hx hb dL_act_200 (lv_at hl 0 rfl) ?_
        refine lv_iload_n hx hb dL_act_202 rfl (lv_at hl 5 rfl) ?_
        refine lv_iconst (v := nI 5) hx hb dL_act_203 (by decide) ?_
        refine mv_ishr (z := xv >>> ((nI 5) &&& 31)) hx hb rfl dL_act_204 ?_
        refine lv_bipush (v := nI 16) hx hb dL_act_205 (by decide) ?_
        refine va_calli (va_runS (As := [.int (xv >>> ((nI 5) &&& 31)), .int (nI 16)]) (rest := [.int (nI d), .int (nI c), .ref (ad 0)]) ⟨hx, hb, hml, hown, hts⟩ (c_L_below l G cy ad (Sy cy ad n k v (Si cy ad n k u x)) _ (xv >>> ((nI 5) &&& 31)) 16 (by omega) (by omega)) (va_cwS 2 hts gL_act_L_below rfl rfl rfl (by decide +kernel) ⟨Nat.le_of_ble_eq_true rfl, Nat.le_of_ble_eq_true rfl⟩) (mP_S hN hE) rfl rfl hl.1 rfl (lv_room (Nat.le_of_ble_eq_true rfl)) dL_act_207 ⟨Nat.le_of_ble_eq_true rfl, Nat.le_of_ble_eq_true rfl⟩) hE.2.2.2 (fun q _ h => mE_A hE q h) (mE_A hE) (fun r uq tq H locs ht hvm hw hB hz1 hk1 hS => ?_)
        obtain ⟨rfl, rfl⟩ := hw
        have hE : mE G (mA ad (Sy cy ad n k v (Si cy ad n k u x)) s.heap.size) s.heap ad (Sy cy ad n k v (Si cy ad n k u x)) H locs := mE_call hE hB ht hS
        obtain ⟨b9, hq_b9⟩ : ∃ y99, y99 = jBe (xv >>> ((nI 5) &&& 31)) 16 := ⟨_, rfl⟩
        rw [← hq_b9]
        have h_b9 : b9 < 16 := by rw [hq_b9]; exact jBe_lt _ (by omega)
        refine va_calli (va_runV (As := [.int (nI c), .int (nI d), .int (nI b9)]) (rest := []) ⟨hx, hb, hml, hown, hts⟩ (c_X2_swap l G cy ad n k v (Si cy ad n k u x) hn hk _ c h_c d b9 (by omega) (by omega)) (cwV 3 hts gL_act_X2_swap rfl rfl rfl (by decide +kernel) ⟨Nat.le_of_ble_eq_true rfl, Nat.le_of_ble_eq_true rfl⟩) (mP_V (r := (RX2, TX2, 5)) hN hE S_0 rfl) rfl rfl hl.1 rfl (lv_room (Nat.le_of_ble_eq_true rfl)) dL_act_210 ⟨Nat.le_of_ble_eq_true rfl, Nat.le_of_ble_eq_true rfl⟩) hE.2.2.2 (fun q _ h => mE_A hE q h) (mE_A hE) (fun r uq tq H locs ht hvm hw hB hz1 hk1 hS => ?_)
        obtain ⟨rfl, rfl⟩ := hw
        have hE : mE G (mA ad (Sy cy ad n k v (Si cy ad n k u x)) s.heap.size) s.heap ad (Sy cy ad n k (mSwap v c d b9) (Si cy ad n k u x)) H locs := mE_call hE hB ht hS
        refine lv_aload_n hx hb dL_act_213 rfl (lv_at hl 4 rfl) ?_
        refine lv_iload hx hb dL_act_214 (lv_at hl 1 rfl) ?_
        refine lv_iload hx hb dL_act_216 (lv_at hl 0 rfl) ?_
        refine lv_iload_n hx hb dL_act_218 rfl (lv_at hl 5 rfl) ?_
        refine lv_iconst (v := nI 5) hx hb dL_act_219 (by decide) ?_
        refine mv_ishr (z := xv >>> ((nI 5) &&& 31)) hx hb rfl dL_act_220 ?_
        refine lv_bipush (v := nI 16) hx hb dL_act_221 (by decide) ?_
        refine va_calli (va_runS (As := [.int (xv >>> ((nI 5) &&& 31)), .int (nI 16)]) (rest := [.int (nI d), .int (nI c), .ref (ad 4), .int (nI (mApart (mSwap v c d b9 3) (mSwap v c d b9 (300 + c)) 31))]) ⟨hx, hb, hml, hown, hts⟩ (c_L_below l G cy ad (Sy cy ad n k (mSwap v c d b9) (Si cy ad n k u x)) _ (xv >>> ((nI 5) &&& 31)) 16 (by omega) (by omega)) (va_cwS 2 hts gL_act_L_below rfl rfl rfl (by decide +kernel) ⟨Nat.le_of_ble_eq_true rfl, Nat.le_of_ble_eq_true rfl⟩) (mP_S hN hE) rfl rfl hl.1 rfl (lv_room (Nat.le_of_ble_eq_true rfl)) dL_act_223 ⟨Nat.le_of_ble_eq_true rfl, Nat.le_of_ble_eq_true rfl⟩) hE.2.2.2 (fun q _ h => mE_A hE q h) (mE_A hE) (fun r uq tq H locs ht hvm hw hB hz1 hk1 hS => ?_)
        obtain ⟨rfl, rfl⟩ := hw
        have hE : mE G (mA ad (Sy cy ad n k v (Si cy ad n k u x)) s.heap.size) s.heap ad (Sy cy ad n k (mSwap v c d b9) (Si cy ad n k u x)) H locs := mE_call hE hB ht hS
        rw [← hq_b9]
        refine va_calli (va_runV (As := [.int (nI c), .int (nI d), .int (nI b9)]) (rest := [.int (nI (mApart (mSwap v c d b9 3) (mSwap v c d b9 (300 + c)) 31))]) ⟨hx, hb, hml, hown, hts⟩ (b_X3_swap l G cy ad n k (mSwap v c d b9) n k u x hn hk _ c d b9 h_c (by omega) (by omega) (hx70 60 (by decide))) (cwV 3 hts gL_act_X3_swap rfl rfl rfl (by decide +kernel) ⟨Nat.le_of_ble_eq_true rfl, Nat.le_of_ble_eq_true rfl⟩) (mP_V (r := (RX3, TX3, 3)) hN hE ((S_r (by omega) (by omega)).trans (Q_4)) rfl) rfl rfl hl.1 rfl (lv_room (Nat.le_of_ble_eq_true rfl)) dL_act_226 ⟨Nat.le_of_ble_eq_true rfl, Nat.le_of_ble_eq_true rfl⟩) hE.2.2.2 (fun q _ h => mE_A hE q h) (mE_A hE) (fun r uq tq H locs ht hvm hw hB hz1 hk1 hS => ?_)
        obtain ⟨rfl, rfl⟩ := hw
        have hE : mE G (mA ad (Sy cy ad n k v (Si cy ad n k u x)) s.heap.size) s.heap ad (Sy cy ad n k (mSwap v c d b9) (Si cy ad n k (jSwap u c d b9) x)) H locs := mE_call hE hB ht hS
        rw [jSwap_ans hJ h_c h_d h_b9]
        have hap := mApart_le (mS (u (20 + c))) (mS ((jSwap u c d b9) (20 + c))) 31
        refine mv_ne (tgt := 236) hx hb (by omega) (by omega) dL_act_229 (by decide) (fun c10 => ?_) (fun c10 => ?_)
        · skip
          exact absurd rfl c10
        · skip
          refine lv_iconst (v := nI 1) hx hb dL_act_232 (by decide) ?_
          refine lv_goto (tgt := 237) hx hb dL_act_233 (by decide) ?_
          obtain ⟨C1, j1, l1⟩ := jV_swap hJ h_c h_d h_b9
          refine W.widen (k := 6) (n := 100) (by omega) (by omega) ?_
          exact mx_zret hx hb hr rfl hE hlocks ⟨rfl, ad, _, _, _, _, C1, cs, ms, rfl, fun j _ => rfl, jV_T j1 (by omega), Nat.le_refl _, by omega, Nat.le_refl _, fun i hi => l1 i, jSl_swap (by omega) hk⟩ dL_act_237
      · skip
        refine lv_tableIn (off := 190) (tgt := 238) hx hb dL_act_48 (by decide) (by decide) rfl (by decide) ?_
        refine lv_iload_n hx hb dL_act_238 rfl (lv_at hl 5 rfl) ?_
        refine lv_iconst (v := nI 3) hx hb dL_act_239 (by decide) ?_
        refine mv_ishr (z := xv >>> ((nI 3) &&& 31)) hx hb rfl dL_act_240 ?_
        refine lv_iload_n hx hb dL_act_241 rfl (lv_at hl 2 rfl) ?_
        refine va_calli (va_runS (As := [.int (xv >>> ((nI 3) &&& 31)), .int (nI n)]) (rest := []) ⟨hx, hb, hml, hown, hts⟩ (c_L_below l G cy ad (Sy cy ad n k v (Si cy ad n k u x)) _ (xv >>> ((nI 3) &&& 31)) n (by omega) (by omega)) (va_cwS 2 hts gL_act_L_below rfl rfl rfl (by decide +kernel) ⟨Nat.le_of_ble_eq_true rfl, Nat.le_of_ble_eq_true rfl⟩) (mP_S hN hE) rfl rfl hl.1 rfl (lv_room (Nat.le_of_ble_eq_true rfl)) dL_act_242 ⟨Nat.le_of_ble_eq_true rfl, Nat.le_of_ble_eq_true rfl⟩) hE.2.2.2 (fun q _ h => mE_A hE q h) (mE_A hE) (fun r uq tq H locs ht hvm hw hB hz1 hk1 hS => ?_)
        obtain ⟨rfl, rfl⟩ := hw
        have hE : mE G (mA ad (Sy cy ad n k v (Si cy ad n k u x)) s.heap.size) s.heap ad (Sy cy ad n k v (Si cy ad n k u x)) H locs := mE_call hE hB ht hS
        obtain ⟨e9, hq_e9⟩ : ∃ y99, y99 = jBe (xv >>> ((nI 3) &&& 31)) n := ⟨_, rfl⟩
        rw [← hq_e9]
        have h_e9 : e9 < n := by rw [hq_e9]; exact jBe_lt _ (by omega)
        refine lv_istore (lv' := [(6, .int (nI e9)), (5, .int (nI d)), (4, .int (nI c)), (3, .int (nI n)), (0, .ref (ad 0)), (1, .ref (ad 4)), (2, .int xv)]) hx hb dL_act_245 hl (by decide) rfl (fun ls hl => ?_)
        refine lv_aload_n hx hb dL_act_247 rfl (lv_at hl 4 rfl) ?_
        refine lv_iload hx hb dL_act_248 (lv_at hl 2 rfl) ?_
        refine lv_iload hx hb dL_act_250 (lv_at hl 0 rfl) ?_
        refine va_calli (va_runV (As := [.int (nI c), .int (nI e9)]) (rest := []) ⟨hx, hb, hml, hown, hts⟩ (c_X2_mend l G cy ad n k v (Si cy ad n k u x) hn hk _ c e9 h_c h_e9) (cwV 2 hts gL_act_X2_mend rfl rfl rfl (by decide +kernel) ⟨Nat.le_of_ble_eq_true rfl, Nat.le_of_ble_eq_true rfl⟩) (mP_V (r := (RX2, TX2, 5)) hN hE S_0 rfl) rfl rfl hl.1 rfl (lv_room (Nat.le_of_ble_eq_true rfl)) dL_act_252 ⟨Nat.le_of_ble_eq_true rfl, Nat.le_of_ble_eq_true rfl⟩) hE.2.2.2 (fun q _ h => mE_A hE q h) (mE_A hE) (fun r uq tq H locs ht hvm hw hB hz1 hk1 hS => ?_)
        obtain ⟨rfl, rfl⟩ := hw
        have hE : mE G (mA ad (Sy cy ad n k v (Si cy ad n k u x)) s.heap.size) s.heap ad (Sy cy ad n k (mMend v c e9 (mDr (mLook (v (300 + c)) (v (300 + e9)) 15) (v (300 + c)) (v (300 + e9)) 16) 16) (Si cy ad n k u x)) H locs := mE_call hE hB ht hS
        refine lv_aload_n hx hb dL_act_255 rfl (lv_at hl 5 rfl) ?_
        refine lv_iload hx hb dL_act_256 (lv_at hl 2 rfl) ?_
        refine lv_iload hx hb dL_act_258 (lv_at hl 0 rfl) ?_
        refine va_calli (va_runV (As := [.int (nI c), .int (nI e9)]) (rest := [.int (mBc (nI (mDr (mLook (v (300 + c)) (v (300 + e9)) 15) (v (300 + c)) (v (300 + e9)) 16)))]) ⟨hx, hb, hml, hown, hts⟩ (b_X3_mend l G cy ad n k (mMend v c e9 (mDr (mLook (v (300 + c)) (v (300 + e9)) 15) (v (300 + c)) (v (300 + e9)) 16) 16) n k u x hn hk _ c e9 (mDr (mLook (v (300 + c)) (v (300 + e9)) 15) (v (300 + c)) (v (300 + e9)) 16) h_c h_e9 (jZ_eq hJ h_c h_e9)) (cwV 2 hts gL_act_X3_mend rfl rfl rfl (by decide +kernel) ⟨Nat.le_of_ble_eq_true rfl, Nat.le_of_ble_eq_true rfl⟩) (mP_V (r := (RX3, TX3, 3)) hN hE ((S_r (by omega) (by omega)).trans (Q_4)) rfl) rfl rfl hl.1 rfl (lv_room (Nat.le_of_ble_eq_true rfl)) dL_act_260 ⟨Nat.le_of_ble_eq_true rfl, Nat.le_of_ble_eq_true rfl⟩) hE.2.2.2 (fun q _ h => mE_A hE q h) (mE_A hE) (fun r uq tq H locs ht hvm hw hB hz1 hk1 hS => ?_)
        obtain ⟨rfl, rfl⟩ := hw
        have hE : mE G (mA ad (Sy cy ad n k v (Si cy ad n k u x)) s.heap.size) s.heap ad (Sy cy ad n k (mMend v c e9 (mDr (mLook (v (300 + c)) (v (300 + e9)) 15) (v (300 + c)) (v (300 + e9)) 16) 16) (Si cy ad n k (jMend u c e9 (mDr (mLook (v (300 + c)) (v (300 + e9)) 15) (v (300 + c)) (v (300 + e9)) 16) 16) x)) H locs := mE_call hE hB ht hS
        rw [jMen_ans hJ h_c h_e9]
        have hap := jMen_le u c e9 (mDr (mLook (v (300 + c)) (v (300 + e9)) 15) (v (300 + c)) (v (300 + e9)) 16) 16
        refine mv_ne (tgt := 270) hx hb (by omega) (by omega) dL_act_263 (by decide) (fun c11 => ?_) (fun c11 => ?_)
        · skip
          exact absurd rfl c11
        · skip
          refine lv_iconst (v := nI 1) hx hb dL_act_266 (by decide) ?_
          refine lv_goto (tgt := 271) hx hb dL_act_267 (by decide) ?_
          obtain ⟨C1, j1, l1⟩ := jV_mend hJ h_c h_e9 (mDr (mLook (v (300 + c)) (v (300 + e9)) 15) (v (300 + c)) (v (300 + e9)) 16) 16 (Nat.le_refl _)
          refine W.widen (k := 6) (n := 100) (by omega) (by omega) ?_
          exact mx_zret hx hb hr rfl hE hlocks ⟨rfl, ad, _, _, _, _, C1, cs, ms, rfl, fun j _ => rfl, jV_T j1 (by omega), Nat.le_refl _, by omega, Nat.le_refl _, fun i hi => l1 i, jSl_mend (by omega) hk 16⟩ dL_act_271
      · skip
        refine lv_tableOut (tgt := 272) hx hb dL_act_48 (Or.inr (by rw [nI_toInt (by omega)]; omega)) (by decide) ?_
        refine lv_aload_n hx hb dL_act_272 rfl (lv_at hl 4 rfl) ?_
        refine va_get (D := G) (ci := 3) (v := .ref (ad 5)) (C := RX3) (T := TX3) (N := 3) hx hb hts hiX3 hown hN.1 (mE_P1 hE ((S_r (by omega) (by omega)).trans (Q_4))) 0 rfl rfl 0 (by decide) (hts (.fieldLink RL 9 "SealedCupboardsLaw$Sim" "things" "[[I") (by decide +kernel)) (fun _ h9 => h9) rfl dL_act_273 ?_
        refine lv_iload hx hb dL_act_276 (lv_at hl 1 rfl) ?_
        refine mx_ralda hx hb hN hE ((S_r (by omega) (by omega)).trans (Q_5)) (j := c) rfl (by omega) (by omega) (Q_5at h_c) dL_act_278 ?_
        refine lv_iload hx hb dL_act_279 (lv_at hl 0 rfl) ?_
        refine mx_iald hx hb hN hE ((S_r (by omega) (by omega)).trans ((Q_te h_c rfl))) (j := d) rfl (by omega) (by decide) dL_act_281 ?_
        refine lv_istore (lv' := [(7, .int (u (20 + c) d)), (5, .int (nI d)), (4, .int (nI c)), (3, .int (nI n)), (0, .ref (ad 0)), (1, .ref (ad 4)), (2, .int xv)]) hx hb dL_act_282 hl (by decide) rfl (fun ls hl => ?_)
        refine lv_iload_n hx hb dL_act_284 rfl (lv_at hl 6 rfl) ?_
        refine lv_bipush (v := nI 6) hx hb dL_act_285 (by decide) ?_
        refine mv_ishr (z := xv >>> ((nI 6) &&& 31)) hx hb rfl dL_act_287 ?_
        refine lv_iconst (v := nI 3) hx hb dL_act_288 (by decide) ?_
        refine va_calli (va_runS (As := [.int (xv >>> ((nI 6) &&& 31)), .int (nI 3)]) (rest := []) ⟨hx, hb, hml, hown, hts⟩ (c_L_below l G cy ad (Sy cy ad n k v (Si cy ad n k u x)) _ (xv >>> ((nI 6) &&& 31)) 3 (by omega) (by omega)) (va_cwS 2 hts gL_act_L_below rfl rfl rfl (by decide +kernel) ⟨Nat.le_of_ble_eq_true rfl, Nat.le_of_ble_eq_true rfl⟩) (mP_S hN hE) rfl rfl hl.1 rfl (lv_room (Nat.le_of_ble_eq_true rfl)) dL_act_289 ⟨Nat.le_of_ble_eq_true rfl, Nat.le_of_ble_eq_true rfl⟩) hE.2.2.2 (fun q _ h => mE_A hE q h) (mE_A hE) (fun r uq tq H locs ht hvm hw hB hz1 hk1 hS => ?_)
        obtain ⟨rfl, rfl⟩ := hw
        have hE : mE G (mA ad (Sy cy ad n k v (Si cy ad n k u x)) s.heap.size) s.heap ad (Sy cy ad n k v (Si cy ad n k u x)) H locs := mE_call hE hB ht hS
        obtain ⟨w3, hq_w3⟩ : ∃ y99, y99 = jBe (xv >>> ((nI 6) &&& 31)) 3 := ⟨_, rfl⟩
        rw [← hq_w3]
        have h_w3 : w3 < 3 := by rw [hq_w3]; exact jBe_lt _ (by omega)
        refine lv_if_ne (tgt := 305) hx hb dL_act_292 (by decide) (fun c12 => ?_) (fun c12 => ?_)
        · skip
          have c12 : ¬ w3 = 0 := fun h9 => c12 ((mz_eq (by omega)).mpr h9)
          refine lv_iload_n hx hb dL_act_305 rfl (lv_at hl 6 rfl) ?_
          refine lv_iconst (v := nI 3) hx hb dL_act_306 (by decide) ?_
          refine mv_imul (z := xv * (nI 3)) hx hb rfl dL_act_307 ?_
          refine lv_sipush (v := nI 10000) hx hb dL_act_308 (by decide) ?_
          refine va_calli (va_runS (As := [.int (xv * (nI 3)), .int (nI 10000)]) (rest := []) ⟨hx, hb, hml, hown, hts⟩ (c_L_below l G cy ad (Sy cy ad n k v (Si cy ad n k u x)) _ (xv * (nI 3)) 10000 (by omega) (by omega)) (va_cwS 2 hts gL_act_L_below rfl rfl rfl (by decide +kernel) ⟨Nat.le_of_ble_eq_true rfl, Nat.le_of_ble_eq_true rfl⟩) (mP_S hN hE) rfl rfl hl.1 rfl (lv_room (Nat.le_of_ble_eq_true rfl)) dL_act_311 ⟨Nat.le_of_ble_eq_true rfl, Nat.le_of_ble_eq_true rfl⟩) hE.2.2.2 (fun q _ h => mE_A hE q h) (mE_A hE) (fun r uq tq H locs ht hvm hw hB hz1 hk1 hS => ?_)
          obtain ⟨rfl, rfl⟩ := hw
          have hE : mE G (mA ad (Sy cy ad n k v (Si cy ad n k u x)) s.heap.size) s.heap ad (Sy cy ad n k v (Si cy ad n k u x)) H locs := mE_call hE hB ht hS
          obtain ⟨t9, hq_t9⟩ : ∃ y99, y99 = jBe (xv * (nI 3)) 10000 := ⟨_, rfl⟩
          rw [← hq_t9]
          have h_t9 : t9 < 10000 := by rw [hq_t9]; exact jBe_lt _ (by omega)
          refine lv_istore (lv' := [(8, .int (nI t9)), (7, .int (u (20 + c) d)), (5, .int (nI d)), (4, .int (nI c)), (3, .int (nI n)), (0, .ref (ad 0)), (1, .ref (ad 4)), (2, .int xv)]) hx hb dL_act_314 hl (by decide) rfl (fun ls hl => ?_)
          refine lv_aload_n hx hb dL_act_316 rfl (lv_at hl 6 rfl) ?_
          refine lv_iload hx hb dL_act_317 (lv_at hl 3 rfl) ?_
          refine lv_iload hx hb dL_act_319 (lv_at hl 2 rfl) ?_
          refine lv_iload hx hb dL_act_321 (lv_at hl 0 rfl) ?_
          refine va_calli (va_runV (As := [.int (nI c), .int (nI d), .int (nI t9)]) (rest := []) ⟨hx, hb, hml, hown, hts⟩ (b_X3_put l G cy ad n k v n k u x hn hk _ c d (nI t9) h_c (by omega)) (cwV 3 hts gL_act_X3_put rfl rfl rfl (by decide +kernel) ⟨Nat.le_of_ble_eq_true rfl, Nat.le_of_ble_eq_true rfl⟩) (mP_V (r := (RX3, TX3, 3)) hN hE ((S_r (by omega) (by omega)).trans (Q_4)) rfl) rfl rfl hl.1 rfl (lv_room (Nat.le_of_ble_eq_true rfl)) dL_act_323 ⟨Nat.le_of_ble_eq_true rfl, Nat.le_of_ble_eq_true rfl⟩) hE.2.2.2 (fun q _ h => mE_A hE q h) (mE_A hE) (fun r uq tq H locs ht hvm hw hB hz1 hk1 hS => ?_)
          obtain ⟨rfl, rfl⟩ := hw
          have hE : mE G (mA ad (Sy cy ad n k v (Si cy ad n k u x)) s.heap.size) s.heap ad (Sy cy ad n k v (Si cy ad n k (jPut u c d (nI t9)) x)) H locs := mE_call hE hB ht hS
          refine lv_pop hx hb dL_act_326 rfl ?_
          refine lv_aload_n hx hb dL_act_327 rfl (lv_at hl 5 rfl) ?_
          refine lv_iload hx hb dL_act_328 (lv_at hl 3 rfl) ?_
          refine lv_iload hx hb dL_act_330 (lv_at hl 2 rfl) ?_
          refine lv_iload hx hb dL_act_332 (lv_at hl 0 rfl) ?_
          refine va_calli (va_runV (As := [.int (nI c), .int (nI d), .int (nI t9)]) (rest := []) ⟨hx, hb, hml, hown, hts⟩ (c_X2_put l G cy ad n k v (Si cy ad n k (jPut u c d (nI t9)) x) hn hk _ c h_c d t9 (by omega) (by omega)) (cwV 3 hts gL_act_X2_put rfl rfl rfl (by decide +kernel) ⟨Nat.le_of_ble_eq_true rfl, Nat.le_of_ble_eq_true rfl⟩) (mP_V (r := (RX2, TX2, 5)) hN hE S_0 rfl) rfl rfl hl.1 rfl (lv_room (Nat.le_of_ble_eq_true rfl)) dL_act_334 ⟨Nat.le_of_ble_eq_true rfl, Nat.le_of_ble_eq_true rfl⟩) hE.2.2.2 (fun q _ h => mE_A hE q h) (mE_A hE) (fun r uq tq H locs ht hvm hw hB hz1 hk1 hS => ?_)
          obtain ⟨rfl, rfl⟩ := hw
          have hE : mE G (mA ad (Sy cy ad n k v (Si cy ad n k u x)) s.heap.size) s.heap ad (Sy cy ad n k (mLay v c d (nI t9)) (Si cy ad n k (jPut u c d (nI t9)) x)) H locs := mE_call hE hB ht hS
          refine lv_iload hx hb dL_act_337 (lv_at hl 1 rfl) ?_
          refine lv_icmp_ne (tgt := 346) hx hb dL_act_339 (by decide) (fun c13 => ?_) (fun c13 => ?_)
          · skip
            exact absurd (jV_u hJ h_c h_d).symm c13
          · skip
            refine lv_iconst (v := nI 1) hx hb dL_act_342 (by decide) ?_
            refine lv_goto (tgt := 347) hx hb dL_act_343 (by decide) ?_
            obtain ⟨C1, j1, l1⟩ := jV_lay' hJ h_c h_d (t := nI t9) ⟨t9, by omega, rfl⟩
            refine W.widen (k := 6) (n := 100) (by omega) (by omega) ?_
            exact mx_zret hx hb hr rfl hE hlocks ⟨rfl, ad, _, _, _, _, C1, cs, ms, rfl, fun j _ => rfl, jV_T j1 (by omega), Nat.le_refl _, by omega, Nat.le_refl _, fun i hi => l1 i, jSl_lay (by omega) hk⟩ dL_act_347
        · skip
          have c12 := (mz_eq (by omega)).mp c12
          refine lv_iload_n hx hb dL_act_295 rfl (lv_at hl 6 rfl) ?_
          refine lv_iconst (v := nI 3) hx hb dL_act_296 (by decide) ?_
          refine mv_ishr (z := xv >>> ((nI 3) &&& 31)) hx hb rfl dL_act_297 ?_
          refine lv_iconst (v := nI 4) hx hb dL_act_298 (by decide) ?_
          refine va_calli (va_runS (As := [.int (xv >>> ((nI 3) &&& 31)), .int (nI 4)]) (rest := []) ⟨hx, hb, hml, hown, hts⟩ (c_L_below l G cy ad (Sy cy ad n k v (Si cy ad n k u x)) _ (xv >>> ((nI 3) &&& 31)) 4 (by omega) (by omega)) (va_cwS 2 hts gL_act_L_below rfl rfl rfl (by decide +kernel) ⟨Nat.le_of_ble_eq_true rfl, Nat.le_of_ble_eq_true rfl⟩) (mP_S hN hE) rfl rfl hl.1 rfl (lv_room (Nat.le_of_ble_eq_true rfl)) dL_act_299 ⟨Nat.le_of_ble_eq_true rfl, Nat.le_of_ble_eq_true rfl⟩) hE.2.2.2 (fun q _ h => mE_A hE q h) (mE_A hE) (fun r uq tq H locs ht hvm hw hB hz1 hk1 hS => ?_)
          obtain ⟨rfl, rfl⟩ := hw
          have hE : mE G (mA ad (Sy cy ad n k v (Si cy ad n k u x)) s.heap.size) s.heap ad (Sy cy ad n k v (Si cy ad n k u x)) H locs := mE_call hE hB ht hS
          obtain ⟨t9, hq_t9⟩ : ∃ y99, y99 = jBe (xv >>> ((nI 3) &&& 31)) 4 := ⟨_, rfl⟩
          rw [← hq_t9]
          have h_t9 : t9 < 4 := by rw [hq_t9]; exact jBe_lt _ (by omega)
          refine lv_goto (tgt := 314) hx hb dL_act_302 (by decide) ?_
          refine lv_istore (lv' := [(8, .int (nI t9)), (7, .int (u (20 + c) d)), (5, .int (nI d)), (4, .int (nI c)), (3, .int (nI n)), (0, .ref (ad 0)), (1, .ref (ad 4)), (2, .int xv)]) hx hb dL_act_314 hl (by decide) rfl (fun ls hl => ?_)
          refine lv_aload_n hx hb dL_act_316 rfl (lv_at hl 6 rfl) ?_
          refine lv_iload hx hb dL_act_317 (lv_at hl 3 rfl) ?_
          refine lv_iload hx hb dL_act_319 (lv_at hl 2 rfl) ?_
          refine lv_iload hx hb dL_act_321 (lv_at hl 0 rfl) ?_
          refine va_calli (va_runV (As := [.int (nI c), .int (nI d), .int (nI t9)]) (rest := []) ⟨hx, hb, hml, hown, hts⟩ (b_X3_put l G cy ad n k v n k u x hn hk _ c d (nI t9) h_c (by omega)) (cwV 3 hts gL_act_X3_put rfl rfl rfl (by decide +kernel) ⟨Nat.le_of_ble_eq_true rfl, Nat.le_of_ble_eq_true rfl⟩) (mP_V (r := (RX3, TX3, 3)) hN hE ((S_r (by omega) (by omega)).trans (Q_4)) rfl) rfl rfl hl.1 rfl (lv_room (Nat.le_of_ble_eq_true rfl)) dL_act_323 ⟨Nat.le_of_ble_eq_true rfl, Nat.le_of_ble_eq_true rfl⟩) hE.2.2.2 (fun q _ h => mE_A hE q h) (mE_A hE) (fun r uq tq H locs ht hvm hw hB hz1 hk1 hS => ?_)
          obtain ⟨rfl, rfl⟩ := hw
          have hE : mE G (mA ad (Sy cy ad n k v (Si cy ad n k u x)) s.heap.size) s.heap ad (Sy cy ad n k v (Si cy ad n k (jPut u c d (nI t9)) x)) H locs := mE_call hE hB ht hS
          refine lv_pop hx hb dL_act_326 rfl ?_
          refine lv_aload_n hx hb dL_act_327 rfl (lv_at hl 5 rfl) ?_
          refine lv_iload hx hb dL_act_328 (lv_at hl 3 rfl) ?_
          refine lv_iload hx hb dL_act_330 (lv_at hl 2 rfl) ?_
          refine lv_iload hx hb dL_act_332 (lv_at hl 0 rfl) ?_
          refine va_calli (va_runV (As := [.int (nI c), .int (nI d), .int (nI t9)]) (rest := []) ⟨hx, hb, hml, hown, hts⟩ (c_X2_put l G cy ad n k v (Si cy ad n k (jPut u c d (nI t9)) x) hn hk _ c h_c d t9 (by omega) (by omega)) (cwV 3 hts gL_act_X2_put rfl rfl rfl (by decide +kernel) ⟨Nat.le_of_ble_eq_true rfl, Nat.le_of_ble_eq_true rfl⟩) (mP_V (r := (RX2, TX2, 5)) hN hE S_0 rfl) rfl rfl hl.1 rfl (lv_room (Nat.le_of_ble_eq_true rfl)) dL_act_334 ⟨Nat.le_of_ble_eq_true rfl, Nat.le_of_ble_eq_true rfl⟩) hE.2.2.2 (fun q _ h => mE_A hE q h) (mE_A hE) (fun r uq tq H locs ht hvm hw hB hz1 hk1 hS => ?_)
          obtain ⟨rfl, rfl⟩ := hw
          have hE : mE G (mA ad (Sy cy ad n k v (Si cy ad n k u x)) s.heap.size) s.heap ad (Sy cy ad n k (mLay v c d (nI t9)) (Si cy ad n k (jPut u c d (nI t9)) x)) H locs := mE_call hE hB ht hS
          refine lv_iload hx hb dL_act_337 (lv_at hl 1 rfl) ?_
          refine lv_icmp_ne (tgt := 346) hx hb dL_act_339 (by decide) (fun c14 => ?_) (fun c14 => ?_)
          · skip
            exact absurd (jV_u hJ h_c h_d).symm c14
          · skip
            refine lv_iconst (v := nI 1) hx hb dL_act_342 (by decide) ?_
            refine lv_goto (tgt := 347) hx hb dL_act_343 (by decide) ?_
            obtain ⟨C1, j1, l1⟩ := jV_lay' hJ h_c h_d (t := nI t9) ⟨t9, by omega, rfl⟩
            refine W.widen (k := 6) (n := 100) (by omega) (by omega) ?_
            exact mx_zret hx hb hr rfl hE hlocks ⟨rfl, ad, _, _, _, _, C1, cs, ms, rfl, fun j _ => rfl, jV_T j1 (by omega), Nat.le_refl _, by omega, Nat.le_refl _, fun i hi => l1 i, jSl_lay (by omega) hk⟩ dL_act_347
    · skip
      have c2 := (mz_eq (by omega)).mp c2
      exfalso; omega
  · skip
    have c1 := (mz_eq (by omega)).mp c1
    exfalso; omega

theorem c_L_act (l : Launch) (G : va_G) (cy : Nat → ClassId) (ad : Nat → Nat) (x : mC) (hx70 : ∀ w, w < 70 → x w = none) (n k : Nat) (v u : Nat → Nat → Int32) (C cs ms : Nat → Nat) (T : Nat) (hJ : jV n k v u C cs ms T) (sz : Nat) (xv : Int32) : mMi l yL_act wsL_act ({ frames := 18, cells := 6, slots := 100, locals := 540 }) G cy ad (Sy cy ad n k v (Si cy ad n k u x)) sz [.ref (ad 0), .ref (ad 4), .int xv] 6 100 (fun (r : Int32) t => r = 1 ∧ jPost cy ad n k v x C (T + 16) t) := by
  rcases Nat.eq_zero_or_pos n with h | h
  · subst h
    exact c_L_act0 l G cy ad x hx70 k v u C cs ms T hJ sz xv
  · exact c_L_act1 l G cy ad x hx70 n k v u C cs ms T hJ sz xv h
