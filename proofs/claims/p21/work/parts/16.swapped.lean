theorem c_X2_rws (l : Launch) (G : va_G) (cy : Nat → ClassId) (ad : Nat → Nat) (n k : Nat) (v : Nat → Nat → Int32) (o : mC) (hn : n ≤ 6) (hk : k ≤ 20) (sz : Nat) (i a b : Nat) (h_i : i < n) (ha : a < 16) (hb9 : b < 16) {g f : Nat → Int32} (hg : v 3 = g) (hf : v (200 + i) = f) : mMi l yX2_rootWithSwap wsX2_rootWithSwap ({ frames := 9, cells := 0, slots := 0, locals := 180 }) G cy ad (Sy cy ad n k v o) sz [.ref (ad 0), .ref (ad (200 + i)), .int (nI a), .int (nI b)] 0 0 (fun (r : Int32) u => r = mRws g f a b 1 ∧ u = (ad, Sy cy ad n k (va_up v 3 (mRwt g f a b)) o)) := by
  subst hg
  subst hf
  exact c_X2_rootWithSwap l G cy ad n k v o hn hk sz i a b h_i ha hb9

set_option maxHeartbeats 4000000 in
set_option maxRecDepth 100000 in
/-- swapped -/
theorem c_X2_swapped (l : Launch) (G : va_G) (cy : Nat → ClassId) (ad : Nat → Nat) (n k : Nat) (v : Nat → Nat → Int32) (o : mC) (hn : n ≤ 6) (hk : k ≤ 20) (sz : Nat) (j : Nat) (h_j : j < k) (cu : Nat) (h_cu : cu < n) (hsc : v (400 + j) 0 = nI cu) (hcon : mCon (v (300 + cu)) (v (200 + cu))) : mMi l yX2_swapped wsX2_swapped ({ frames := 10, cells := 0, slots := 0, locals := 220 }) G cy ad (Sy cy ad n k v o) sz [.ref (ad 0), .int (nI j)] 0 0 (fun (r : Int32) u => (if v (300 + cu) 1 = v (400 + j) 1 then r = -1 else mSwR (v (200 + cu)) (v (400 + j) 1) r) ∧ ∃ g : Nat → Int32, u = (ad, Sy cy ad n k (va_up v 3 g) o)) := by
  refine Met.ofW (cc := cX2_swapped) (maxL := 6) (ret := (some .int)) (by decide) rfl ?_
  intro p e s m args below meth c s₁ B hml hv
  obtain ⟨rfl, hv⟩ := hv
  have hsz := hv.1
  subst hsz
  have hN := hv.2.2
  have hE := mP_E hv
  have hx := B.exec
  have hb := B.bytes
  have hr := B.returns
  have hts := atoms_spec (ws := wsX2_swapped) B.pre
  have hown : s.vm.findClass RX2 = some m.cls := findClass_of_methodNamed B.named
  have hlocks := B.notSynchronized
  have hiX2 : ∀ w ∈ wsX20, w ∈ wsX2_swapped := by decide +kernel
  have hiX1 : ∀ w ∈ wsX10, w ∈ wsX2_swapped := by decide +kernel
  have hiX0 : ∀ w ∈ wsX00, w ∈ wsX2_swapped := by decide +kernel
  have hl := lv_entry ([.ref (ad 0), .int (nI j)]) (n := 6) (Nat.le_of_ble_eq_true rfl)
  rw [lg_entry_eq]
  generalize (lg_sl ([.ref (ad 0), .int (nI j)]) ++ List.replicate (6 - (lg_sl ([.ref (ad 0), .int (nI j)])).length) Slot.unset).toArray = ls at hl ⊢
  have hl : lv_has ls 6 [(0, .ref (ad 0)), (1, .int (nI j))] := hl
  refine lv_aload_n hx hb dX2_swapped_0 rfl (lv_at hl 0 rfl) ?_
  refine lv_iload_n hx hb dX2_swapped_1 rfl (lv_at hl 1 rfl) ?_
  refine va_callq (va_runV (As := [.int (nI j)]) (rest := []) ⟨hx, hb, hml, hown, hts⟩ (c_X2_findSeal l G cy ad n k v o hn hk _ j h_j) (cwV 1 hts gX2_swapped_X2_findSeal rfl rfl rfl (by decide +kernel) ⟨Nat.le_of_ble_eq_true rfl, Nat.le_of_ble_eq_true rfl⟩) (mP_V (r := (RX2, TX2, 5)) hN hE S_0 rfl) rfl rfl hl.1 rfl (lv_room (Nat.le_of_ble_eq_true rfl)) dX2_swapped_2 ⟨Nat.le_of_ble_eq_true rfl, Nat.le_of_ble_eq_true rfl⟩) hE.2.2.2 (fun q _ h => mE_A hE q h) (mE_A hE) (fun r uq tq H locs ht hvm hw hB hz1 hk1 hS => ?_)
  obtain ⟨rfl, rfl⟩ := hw
  have hE : mE G (mA ad (Sy cy ad n k v o) s.heap.size) s.heap ad (Sy cy ad n k v o) H locs := mE_call hE hB ht hS
  refine lv_astore_n (lv' := [(2, .ref (ad (400 + j))), (0, .ref (ad 0)), (1, .int (nI j))]) hx hb dX2_swapped_5 rfl hl (by decide) rfl (fun ls hl => ?_)
  refine lv_aload_n hx hb dX2_swapped_6 rfl (lv_at hl 1 rfl) ?_
  refine lv_aload_n hx hb dX2_swapped_7 rfl (lv_at hl 0 rfl) ?_
  refine va_getN (D := G) (ci := 1) (v := .int (nI cu)) (C := RX1) (T := TX1) (N := 3) (host := RX2) hx hb hts hiX1 hown hN.1 (mE_P1 hE (S_soc hn h_j hsc)) 0 rfl rfl 0 (by decide) (va_Nw.use rfl (hN.2.1 (.fieldLinkNest RX2 109 RX1 "cupboard" "I" RX2) (by decide +kernel))) (fun _ h9 => h9) rfl dX2_swapped_8 ?_
  refine va_callq (va_runV (As := [.int (nI cu)]) (rest := []) ⟨hx, hb, hml, hown, hts⟩ (c_X2_findCupboard l G cy ad n k v o hn hk _ cu h_cu) (cwV 1 hts gX2_swapped_X2_findCupboard rfl rfl rfl (by decide +kernel) ⟨Nat.le_of_ble_eq_true rfl, Nat.le_of_ble_eq_true rfl⟩) (mP_V (r := (RX2, TX2, 5)) hN hE S_0 rfl) rfl rfl hl.1 rfl (lv_room (Nat.le_of_ble_eq_true rfl)) dX2_swapped_11 ⟨Nat.le_of_ble_eq_true rfl, Nat.le_of_ble_eq_true rfl⟩) hE.2.2.2 (fun q _ h => mE_A hE q h) (mE_A hE) (fun r uq tq H locs ht hvm hw hB hz1 hk1 hS => ?_)
  obtain ⟨rfl, rfl⟩ := hw
  have hE : mE G (mA ad (Sy cy ad n k v o) s.heap.size) s.heap ad (Sy cy ad n k v o) H locs := mE_call hE hB ht hS
  refine lv_astore_n (lv' := [(3, .ref (ad (100 + cu))), (2, .ref (ad (400 + j))), (0, .ref (ad 0)), (1, .int (nI j))]) hx hb dX2_swapped_14 rfl hl (by decide) rfl (fun ls hl => ?_)
  refine lv_aload_n hx hb dX2_swapped_15 rfl (lv_at hl 0 rfl) ?_
  refine va_calli (va_runVN (As := []) (rest := []) ⟨hx, hb, hml, hown, hts⟩ (c_X0_root l G cy ad n k v o hn hk _ cu h_cu) ⟨va_cnB 0 hts gX2_swapped_X0_root_n76 rfl rfl rfl (hN.2.1 (.methodLinkNest RX2 76 yX0_root RX2) (by decide +kernel)) (hts (.initialized RX0) (by decide +kernel)) (by decide +kernel) ⟨Nat.le_of_ble_eq_true rfl, Nat.le_of_ble_eq_true rfl⟩, (hts (.instanceMethod yX0_root) (by decide +kernel)), (hts (.selects RX0 yX0_root yX0_root) (by decide +kernel))⟩ (mP_V (r := (RX0, TX0, 3)) hN hE (S_ce hn h_cu rfl) rfl) rfl rfl hl.1 rfl (lv_room (Nat.le_of_ble_eq_true rfl)) dX2_swapped_16 ⟨Nat.le_of_ble_eq_true rfl, Nat.le_of_ble_eq_true rfl⟩) hE.2.2.2 (fun q _ h => mE_A hE q h) (mE_A hE) (fun r uq tq H locs ht hvm hw hB hz1 hk1 hS => ?_)
  obtain ⟨rfl, rfl⟩ := hw
  have hE : mE G (mA ad (Sy cy ad n k v o) s.heap.size) s.heap ad (Sy cy ad n k v o) H locs := mE_call hE hB ht hS
  refine lv_aload_n hx hb dX2_swapped_19 rfl (lv_at hl 1 rfl) ?_
  refine va_getN (D := G) (ci := 1) (v := .int (v (400 + j) 1)) (C := RX1) (T := TX1) (N := 3) (host := RX2) hx hb hts hiX1 hown hN.1 (mE_P1 hE (S_soc hn h_j hsc)) 0 rfl rfl 1 (by decide) (va_Nw.use rfl (hN.2.1 (.fieldLinkNest RX2 112 RX1 "root" "I" RX2) (by decide +kernel))) (fun _ h9 => h9) rfl dX2_swapped_20 ?_
  refine lv_icmp_ne (tgt := 28) hx hb dX2_swapped_23 (by decide) (fun c1 => ?_) (fun c1 => ?_)
  · skip
    refine lv_aload_n hx hb dX2_swapped_28 rfl (lv_at hl 0 rfl) ?_
    refine va_getN (D := G) (ci := 0) (v := .ref (ad (300 + cu))) (C := RX0) (T := TX0) (N := 3) (host := RX2) hx hb hts hiX0 hown hN.1 (mE_P1 hE (S_ce hn h_cu rfl)) 0 rfl rfl 1 (by decide) (va_Nw.use rfl (hN.2.1 (.fieldLinkNest RX2 55 RX0 "sums" "[I" RX2) (by decide +kernel))) (fun _ h9 => h9) rfl dX2_swapped_29 ?_
    refine lv_iconst (v := nI 0) hx hb dX2_swapped_32 (by decide) ?_
    refine lv_aload_n hx hb dX2_swapped_33 rfl (lv_at hl 2 rfl) ?_
    refine va_get (D := G) (ci := 2) (v := .ref (ad 3)) (C := RX2) (T := TX2) (N := 5) hx hb hts hiX2 hown hN.1 (mE_P1 hE S_0) 0 rfl rfl 2 (by decide) (hts (.fieldLink RX2 21 "SealedCupboards" "spareSums" "[I") (by decide +kernel)) (fun _ h9 => h9) rfl dX2_swapped_34 ?_
    refine lv_iconst (v := nI 0) hx hb dX2_swapped_37 (by decide) ?_
    refine lv_bipush (v := nI 32) hx hb dX2_swapped_38 (by decide) ?_
    refine mx_copy hx hb (hml.trans hl.1.symm) hown (hts (.methodLink RX2 58 arraycopyName) (by decide +kernel)) (hts (.native arraycopyName) (by decide +kernel)) (hts (.static arraycopyName) (by decide +kernel)) (hts (.initialized "java/lang/System") (by decide +kernel)) hN hE (S_se hn h_cu rfl) (S_3e rfl) (n := 32) rfl (by decide) (by decide) (by decide) (Nat.le_of_ble_eq_true rfl) (Nat.le_of_ble_eq_true rfl) dX2_swapped_40 (fun H locs hE => ?_)
    obtain ⟨kv2, hkv2⟩ : ∃ y99, y99 = va_up v 3 (va_cpy (v (300 + cu)) (v 3) 0 0 32) := ⟨_, rfl⟩
    have hE : mE G (mA ad (Sy cy ad n k v o) s.heap.size) s.heap ad (Sy cy ad n k kv2 o) H locs := by rw [hkv2]; exact (S_up sy_3) ▸ hE
    have ke3 : kv2 3 = (va_cpy (v (300 + cu)) (v 3) 0 0 32) := by rw [hkv2, va_up_s]
    refine lv_iconst (v := nI 0) hx hb dX2_swapped_43 (by decide) ?_
    refine lv_istore (lv' := [(4, .int (nI 0)), (3, .ref (ad (100 + cu))), (2, .ref (ad (400 + j))), (0, .ref (ad 0)), (1, .int (nI j))]) hx hb dX2_swapped_44 hl (by decide) rfl (fun ls hl => ?_)
    refine mx_loop (β := Nat × (Nat → Nat → Int32)) (fun n9 (b : Nat × (Nat → Nat → Int32)) H locs ls => (fun (a : Nat) (v9 : Nat → Nat → Int32) => n9 = 16 - a ∧ (∃ g : Nat → Int32, a ≤ 16 ∧ v9 = va_up v 3 g ∧ mCon g (v (200 + cu)) ∧ ∀ a' b', a' < b' → b' < 16 → (a' < a ∨ (a' = a ∧ b' < 0)) → ¬ mS (mExch (v (200 + cu)) a' b') 1 = (v (400 + j) 1)) ∧ mE G (mA ad (Sy cy ad n k v o) s.heap.size) s.heap ad (Sy cy ad n k v9 o) H locs ∧ lv_has ls 6 [(4, .int (nI a)), (3, .ref (ad (100 + cu))), (2, .ref (ad (400 + j))), (0, .ref (ad 0))]) (b.1) (b.2)) ?_ (16 - 0) (0, kv2) _ _ _ ⟨rfl, ⟨_, by omega, hkv2, mCon_eq hcon (fun q h1 h2 => by rw [pk_cpy_in (by omega) (by omega), Nat.sub_zero, Nat.zero_add]), fun a' b' h1 h2 h3 => by omega⟩, hE, lv_sub hl [0, 1, 2, 3] rfl⟩
    intro n9 b H locs ls hI ih4
    obtain ⟨a, v9⟩ := b
    obtain ⟨hn5, ⟨g, hle, rfl, hg, hno⟩, hE, hl⟩ := hI
    have hE : mE G (mA ad (Sy cy ad n k v o) s.heap.size) s.heap ad (Sy cy ad n k (va_up v 3 g) o) H locs := hE
    have hl : lv_has ls 6 [(4, .int (nI a)), (3, .ref (ad (100 + cu))), (2, .ref (ad (400 + j))), (0, .ref (ad 0))] := hl
    refine lv_iload hx hb dX2_swapped_46 (lv_at hl 0 rfl) ?_
    refine lv_bipush (v := nI 16) hx hb dX2_swapped_48 (by decide) ?_
    refine mv_ge (tgt := 106) hx hb (by omega) (by omega) dX2_swapped_50 (by decide) (fun c6 => ?_) (fun c6 => ?_)
    · skip
      refine lv_iconst (v := (-1)) hx hb dX2_swapped_106 (by decide) ?_
      exact mx_iret hx hb hr hE hlocks ⟨by rw [if_neg c1]; exact Or.inr ⟨fun a' b' h1 h2 => hno a' b' h1 h2 (by omega), rfl⟩, g, rfl⟩ dX2_swapped_107
    · skip
      refine lv_iload hx hb dX2_swapped_53 (lv_at hl 0 rfl) ?_
      refine lv_iconst (v := nI 1) hx hb dX2_swapped_55 (by decide) ?_
      refine mv_iadd (z := nI (a + 1)) hx hb (nI_add _ _) dX2_swapped_56 ?_
      refine lv_istore (lv' := [(5, .int (nI (a + 1))), (4, .int (nI a)), (3, .ref (ad (100 + cu))), (2, .ref (ad (400 + j))), (0, .ref (ad 0))]) hx hb dX2_swapped_57 hl (by decide) rfl (fun ls hl => ?_)
      refine mx_loop (β := Nat × (Nat → Nat → Int32)) (fun n9 (b : Nat × (Nat → Nat → Int32)) H locs ls => (fun (b : Nat) (v9 : Nat → Nat → Int32) => n9 = 16 - b ∧ (∃ g : Nat → Int32, (a < b ∧ b ≤ 16) ∧ v9 = va_up v 3 g ∧ mCon g (v (200 + cu)) ∧ ∀ a' b', a' < b' → b' < 16 → (a' < a ∨ (a' = a ∧ b' < b)) → ¬ mS (mExch (v (200 + cu)) a' b') 1 = (v (400 + j) 1)) ∧ mE G (mA ad (Sy cy ad n k v o) s.heap.size) s.heap ad (Sy cy ad n k v9 o) H locs ∧ lv_has ls 6 [(5, .int (nI b)), (4, .int (nI a)), (3, .ref (ad (100 + cu))), (2, .ref (ad (400 + j))), (0, .ref (ad 0))]) (b.1) (b.2)) ?_ (16 - (a + 1)) (a + 1, (va_up v 3 g)) _ _ _ ⟨rfl, ⟨g, by omega, rfl, hg, fun a' b' h1 h2 h3 => hno a' b' h1 h2 (by omega)⟩, hE, lv_sub hl [0, 1, 2, 3, 4] rfl⟩
      intro n9 b H locs ls hI ih7
      obtain ⟨b, v9⟩ := b
      obtain ⟨hn8, ⟨g, hle2, rfl, hg, hno2⟩, hE, hl⟩ := hI
      have hE : mE G (mA ad (Sy cy ad n k v o) s.heap.size) s.heap ad (Sy cy ad n k (va_up v 3 g) o) H locs := hE
      have hl : lv_has ls 6 [(5, .int (nI b)), (4, .int (nI a)), (3, .ref (ad (100 + cu))), (2, .ref (ad (400 + j))), (0, .ref (ad 0))] := hl
      refine lv_iload hx hb dX2_swapped_59 (lv_at hl 0 rfl) ?_
      refine lv_bipush (v := nI 16) hx hb dX2_swapped_61 (by decide) ?_
      refine mv_ge (tgt := 100) hx hb (by omega) (by omega) dX2_swapped_63 (by decide) (fun c9 => ?_) (fun c9 => ?_)
      · skip
        refine lv_iinc (v := nI (a + 1)) (lv' := [(4, .int (nI (a + 1))), (5, .int (nI b)), (3, .ref (ad (100 + cu))), (2, .ref (ad (400 + j))), (0, .ref (ad 0))]) hx hb dX2_swapped_100 hl (k := 1) rfl (nI_add _ _) (by decide) rfl (fun ls hl => ?_)
        refine lv_goto (tgt := 46) hx hb dX2_swapped_103 (by decide) ?_
        exact ih4 (16 - (a + 1)) (a + 1, (va_up v 3 g)) _ _ _ (by rw [hn5]; omega) ⟨rfl, ⟨g, by omega, rfl, hg, fun a' b' h1 h2 h3 => hno2 a' b' h1 h2 (by omega)⟩, hE, lv_sub hl [0, 2, 3, 4] rfl⟩
      · skip
        refine lv_aload_n hx hb dX2_swapped_66 rfl (lv_at hl 4 rfl) ?_
        refine lv_aload_n hx hb dX2_swapped_67 rfl (lv_at hl 2 rfl) ?_
        refine va_getN (D := G) (ci := 0) (v := .ref (ad (200 + cu))) (C := RX0) (T := TX0) (N := 3) (host := RX2) hx hb hts hiX0 hown hN.1 (mE_P1 hE (S_ce hn h_cu rfl)) 0 rfl rfl 0 (by decide) (va_Nw.use rfl (hN.2.1 (.fieldLinkNest RX2 48 RX0 "things" "[I" RX2) (by decide +kernel))) (fun _ h9 => h9) rfl dX2_swapped_68 ?_
        refine lv_iload hx hb dX2_swapped_71 (lv_at hl 1 rfl) ?_
        refine lv_iload hx hb dX2_swapped_73 (lv_at hl 0 rfl) ?_
        refine va_calli (va_runV (As := [.ref (ad (200 + cu)), .int (nI a), .int (nI b)]) (rest := []) ⟨hx, hb, hml, hown, hts⟩ (c_X2_rws l G cy ad n k (va_up v 3 g) o hn hk _ cu a b h_cu (by omega) (by omega) (va_up_s v 3 g) (va_up_n v g (by omega))) (cwV 3 hts gX2_swapped_X2_rootWithSwap rfl rfl rfl (by decide +kernel) ⟨Nat.le_of_ble_eq_true rfl, Nat.le_of_ble_eq_true rfl⟩) (mP_V (r := (RX2, TX2, 5)) hN hE S_0 rfl) rfl rfl hl.1 rfl (lv_room (Nat.le_of_ble_eq_true rfl)) dX2_swapped_75 ⟨Nat.le_of_ble_eq_true rfl, Nat.le_of_ble_eq_true rfl⟩) hE.2.2.2 (fun q _ h => mE_A hE q h) (mE_A hE) (fun r uq tq H locs ht hvm hw hB hz1 hk1 hS => ?_)
        obtain ⟨rfl, rfl⟩ := hw
        have hE : mE G (mA ad (Sy cy ad n k v o) s.heap.size) s.heap ad (Sy cy ad n k (va_up (va_up v 3 g) 3 (mRwt g (v (200 + cu)) a b)) o) H locs := mE_call hE hB ht hS
        rw [va_upup] at hE
        refine lv_aload_n hx hb dX2_swapped_78 rfl (lv_at hl 3 rfl) ?_
        refine va_getN (D := G) (ci := 1) (v := .int ((v (400 + j)) 1)) (C := RX1) (T := TX1) (N := 3) (host := RX2) hx hb hts hiX1 hown hN.1 (mE_P1 hE (S_soe hn h_j (va_up_n v _ (by omega)))) 0 rfl rfl 1 (by decide) (va_Nw.use rfl (hN.2.1 (.fieldLinkNest RX2 112 RX1 "root" "I" RX2) (by decide +kernel))) (fun _ h9 => h9) rfl dX2_swapped_79 ?_
        refine lv_icmp_ne (tgt := 94) hx hb dX2_swapped_82 (by decide) (fun c10 => ?_) (fun c10 => ?_)
        · skip
          refine lv_iinc (v := nI (b + 1)) (lv' := [(5, .int (nI (b + 1))), (4, .int (nI a)), (3, .ref (ad (100 + cu))), (2, .ref (ad (400 + j))), (0, .ref (ad 0))]) hx hb dX2_swapped_94 hl (k := 0) rfl (nI_add _ _) (by decide) rfl (fun ls hl => ?_)
          refine lv_goto (tgt := 59) hx hb dX2_swapped_97 (by decide) ?_
          exact ih7 (16 - (b + 1)) (b + 1, (va_up v 3 (mRwt g (v (200 + cu)) a b))) _ _ _ (by rw [hn8]; omega) ⟨rfl, ⟨_, by omega, rfl, mRwt_con hg (by omega) (by omega), fun a' b' h1 h2 h3 => if h9 : a' = a ∧ b' = b then by rw [h9.1, h9.2, ← mCon_S (mRws_con hg (by omega) (by omega)) 1 (by decide) (by decide)]; exact c10 else hno2 a' b' h1 h2 (by omega)⟩, hE, lv_sub hl [0, 1, 2, 3, 4] rfl⟩
        · skip
          refine lv_bipush (v := nI 16) hx hb dX2_swapped_85 (by decide) ?_
          refine lv_iload hx hb dX2_swapped_87 (lv_at hl 1 rfl) ?_
          refine mv_imul (z := nI (16 * a)) hx hb (pk_mul _ _) dX2_swapped_89 ?_
          refine lv_iload hx hb dX2_swapped_90 (lv_at hl 0 rfl) ?_
          refine mv_iadd (z := nI ((16 * a) + b)) hx hb (nI_add _ _) dX2_swapped_92 ?_
          exact mx_iret hx hb hr hE hlocks ⟨by rw [if_neg c1]; exact Or.inl ⟨a, b, by omega, by omega, by rw [← mCon_S (mRws_con hg (by omega) (by omega)) 1 (by decide) (by decide)]; exact c10, fun a' b' h1 h2 h3 => hno2 a' b' h1 h2 h3, rfl⟩, _, rfl⟩ dX2_swapped_93
  · skip
    refine lv_iconst (v := (-1)) hx hb dX2_swapped_26 (by decide) ?_
    exact mx_iret hx hb hr hE hlocks ⟨by rw [if_pos c1], _, by rw [va_up_id v 3]⟩ dX2_swapped_27
