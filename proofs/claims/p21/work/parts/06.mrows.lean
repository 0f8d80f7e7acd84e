section MROW
variable {p : Program} {l : Launch} {e : Env} {R : Room} {s : State} {m : MethodId} {args : Array Value} {below : List Frame} {meth : Method} {c : Code} {H : Heap} {locs : List Loc} {cells slots : Nat} {Q : State → Prop}
variable {cc : ByteArray} {pc : Nat} {ls : Array Slot} {rest st0 : List Value} {G : va_G} {cy : Nat → ClassId} {A : Nat → Prop} {ad ad' : Nat → Nat} {M M' : mC} {k ci : Nat}
theorem mx_iald (hx : p.tables.exec = Jvm.exec) (hb : c.code = cc) (hN : mN G cy A s) (hE : mE G A s.heap ad M H locs) {n : Nat} {f : Nat → Int32} (hC : M k = some (.inl (cy 0, n, .inl f))) {i : Int32} {j : Nat} (hi : i = nI j) (hj : j < n) (hn : n < 2 ^ 31) (hdg : decode cc pc = .ok (.iaload, 1))
    (kk : W p l e R s m args below meth c H locs cells slots Q (F0 m (pc + 1) ls (.int (f j) :: rest))) : W p l e R s m args below meth c H locs cells slots Q (F0 m pc ls (.int i :: .ref (ad k) :: rest)) := by
  subst hi
  refine va_iald hx hb hN.1 (mE_P1 hE hC) 0 0 rfl rfl (vp_in_nI hj hn) hdg ?_
  rw [nI_clamp (Nat.lt_trans hj hn)]
  exact kk
theorem mx_aald (hx : p.tables.exec = Jvm.exec) (hb : c.code = cc) (hN : mN G cy A s) (hE : mE G A s.heap ad M H locs) {t n : Nat} {cA : ClassId} {C : String} {f : Nat → Option Nat} (hC : M k = some (.inl (cA, n, .inr (.inr (.inr (.inr f)))))) (ht : (mT cy)[t]? = some (cA, .object C)) {i : Int32} {j : Nat} (hi : i = nI j) (hj : j < n) (hn : n < 2 ^ 31) {q : Nat} (hq : f j = some q) (hdg : decode cc pc = .ok (.aaload, 1))
    (kk : W p l e R s m args below meth c H locs cells slots Q (F0 m (pc + 1) ls (.ref q :: rest))) : W p l e R s m args below meth c H locs cells slots Q (F0 m pc ls (.int i :: .ref (ad k) :: rest)) := by
  subst hi
  refine va_aldq hx hb hN.1 (mE_P1 hE hC) 0 t rfl ht (vp_in_nI hj hn) hdg ?_
  rw [nI_clamp (Nat.lt_trans hj hn), hq]
  exact kk
theorem mx_iast (hx : p.tables.exec = Jvm.exec) (hb : c.code = cc) (hN : mN G cy A s) (hE : mE G A s.heap ad M H locs) {n : Nat} {f : Nat → Int32} (hC : M k = some (.inl (cy 0, n, .inl f))) {i x : Int32} {j : Nat} (hi : i = nI j) (hj : j < n) (hn : n < 2 ^ 31) (hdg : decode cc pc = .ok (.iastore, 1))
    (kk : ∀ (H : Heap) (locs : List Loc), mE G A s.heap ad (mU M k (.inl (cy 0, n, .inl (upd f j x)))) H locs → W p l e R s m args below meth c H locs cells slots Q (F0 m (pc + 1) ls rest)) : W p l e R s m args below meth c H locs cells slots Q (F0 m pc ls (.int x :: .int i :: .ref (ad k) :: rest)) := by
  subst hi
  obtain ⟨q0, hq⟩ := mL_at (ad := ad) hE.1.2.2 hC
  refine va_iast hx hb hN.1 (mE_P hE) (mE_D hE) hE.2.2.2 q0 0 hq rfl (vp_in_nI hj hn) hdg (fun H1 locs1 hP _ hS => ?_)
  rw [nI_clamp (Nat.lt_trans hj hn)] at hP
  exact kk H1 locs1 (mE_set hE hC hq hP hS)
theorem mx_put (hx : p.tables.exec = Jvm.exec) (hb : c.code = cc) {own ref C : String} {T : u_T} {N index : Nat} {Ts : List Cond} (hts : ∀ w ∈ Ts, w.before args s = true) (hin : ∀ w ∈ u_ws C T N, w ∈ Ts) (ty0 : Nat → FieldType) (hty : ∀ k, k < N → parseFieldDescriptor (T k).2.2.1 = some (ty0 k)) (hnm : ∀ a, a < N → ∀ b, b < N → a ≠ b → (T a).2.1 ≠ (T b).2.1) (hown : s.vm.findClass own = some m.cls) (hN : mN G cy A s) (hE : mE G A s.heap ad M H locs) {fs : List Value} (hC : M k = some (.inr (ci, fs))) (hc : vwCl[ci]? = some (C, T, N)) (i : Nat) (hi : i < N) (hlink : (Cond.fieldLink own index ref (T i).2.1 (T i).2.2.1).before args s = true) (hsame : ∀ x, s.fieldFound? (T i).1 (T i).2.1 (T i).2.2.1 = some x → s.fieldFound? ref (T i).2.1 (T i).2.2.1 = some x) (hfin : (T i).2.2.2 = false) {ty : FieldType} {v : Value} (hd : parseFieldDescriptor (T i).2.2.1 = some ty) (hn : narrow ty v = v) (hfit : fits ty v = true) (hl : i < fs.length)
    (hdg : decode cc pc = .ok (.putfield index, 3)) (kk : ∀ (H : Heap) (locs : List Loc), mE G A s.heap ad (mU M k (.inr (ci, fs.set i v))) H locs → W p l e R s m args below meth c H locs cells slots Q (F0 m (pc + 3) ls rest)) : W p l e R s m args below meth c H locs cells slots Q (F0 m pc ls (v :: .ref (ad k) :: rest)) := by
  obtain ⟨q0, hq⟩ := mL_at (ad := ad) hE.1.2.2 hC
  exact va_put hx hb hts hin ty0 hty hnm hown hN.1 (mE_P hE) (mE_D hE) hE.2.2.2 q0 hq hc i hi hlink hsame hfin hd hn hfit hl hdg (fun H1 locs1 hP _ hS => kk H1 locs1 (mE_set hE hC hq hP hS))
theorem mx_putF (hx : p.tables.exec = Jvm.exec) (hb : c.code = cc) {own ref C : String} {T : u_T} {N index : Nat} {Ts : List Cond} (hts : ∀ w ∈ Ts, w.before args s = true) (hin : ∀ w ∈ u_ws C T N, w ∈ Ts) (ty0 : Nat → FieldType) (hty : ∀ k, k < N → parseFieldDescriptor (T k).2.2.1 = some (ty0 k)) (hnm : ∀ a, a < N → ∀ b, b < N → a ≠ b → (T a).2.1 ≠ (T b).2.1) (hown : s.vm.findClass own = some m.cls) (hN : mN G cy A s) (hE : mE G A s.heap ad M H locs) {fs : List Value} (hC : M k = some (.inr (ci, fs))) (hc : vwCl[ci]? = some (C, T, N)) (i : Nat) (hi : i < N) (hlink : (Cond.fieldLink own index ref (T i).2.1 (T i).2.2.1).before args s = true) (hsame : ∀ x, s.fieldFound? (T i).1 (T i).2.1 (T i).2.2.1 = some x → s.fieldFound? ref (T i).2.1 (T i).2.2.1 = some x) (hfin : (T i).2.2.2 = true) (hin2 : meth.name = "<init>") (hdecl : (T i).1 = own) {ty : FieldType} {v : Value} (hd : parseFieldDescriptor (T i).2.2.1 = some ty) (hn : narrow ty v = v) (hfit : fits ty v = true) (hl : i < fs.length)
    (hdg : decode cc pc = .ok (.putfield index, 3)) (kk : ∀ (H : Heap) (locs : List Loc), mE G A s.heap ad (mU M k (.inr (ci, fs.set i v))) H locs → W p l e R s m args below meth c H locs cells slots Q (F0 m (pc + 3) ls rest)) : W p l e R s m args below meth c H locs cells slots Q (F0 m pc ls (v :: .ref (ad k) :: rest)) := by
  obtain ⟨q0, hq⟩ := mL_at (ad := ad) hE.1.2.2 hC
  exact va_putF hx hb hts hin ty0 hty hnm hown hN.1 (mE_P hE) (mE_D hE) hE.2.2.2 q0 hq hc i hi hlink hsame hfin hin2 hdecl hd hn hfit hl hdg (fun H1 locs1 hP _ hS => kk H1 locs1 (mE_set hE hC hq hP hS))
/-- System.arraycopy of ints, between two names -/
theorem mx_copy (hx : p.tables.exec = Jvm.exec) (hb : c.code = cc) (hml : c.maxLocals = ls.size) {own : String} {index : Nat} (hown : s.vm.findClass own = some m.cls) (hlink : (Cond.methodLink own index arraycopyName).before args s = true) (hnat : (Cond.native arraycopyName).before args s = true) (hstat : (Cond.static arraycopyName).before args s = true) (hini : (Cond.initialized "java/lang/System").before args s = true)
    (hN : mN G cy A s) (hE : mE G A s.heap ad M H locs) {k0 n0 n1 n : Nat} {f g : Nat → Int32} (hC0 : M k0 = some (.inl (cy 0, n0, .inl f))) (hC : M k = some (.inl (cy 0, n1, .inl g))) {x : Int32} (hxn : x = nI n) (h0 : n ≤ n0) (h1 : n ≤ n1) (hn : n < 2 ^ 31)
    (hframes : 1 ≤ R.frames) (hlocals : (rest.map fun v => v.category).sum + (nativeFrameWords "java/lang/System" "arraycopy" 5 + 11) ≤ R.locals) (hdg : decode cc pc = .ok (.invokestatic index, 3))
    (kk : ∀ (H : Heap) (locs : List Loc), mE G A s.heap ad (mU M k (.inl (cy 0, n1, .inl (va_cpy f g 0 0 n)))) H locs → W p l e R s m args below meth c H locs cells slots Q (F0 m (pc + 3) ls rest)) : W p l e R s m args below meth c H locs cells slots Q (F0 m pc ls (.int x :: .int (nI 0) :: .ref (ad k) :: .int (nI 0) :: .ref (ad k0) :: rest)) := by
  subst hxn
  rw [nI_0]
  obtain ⟨q0, hq0⟩ := mL_at (ad := ad) hE.1.2.2 hC0
  obtain ⟨q1, hq⟩ := mL_at (ad := ad) hE.1.2.2 hC
  have e0 : (0 : Int32).toNatClampNeg = 0 := rfl
  refine va_copyi hx hb hml hown hlink hnat hstat hini hN.1 (mE_P hE) (mE_D hE) hE.2.2.2 q0 q1 0 0 hq0 hq rfl rfl rfl (by decide) (by decide) (nI_pos hn) (by rw [nI_clamp hn, e0]; omega) (by rw [nI_clamp hn, e0]; omega) (fun _ _ => rfl) hframes hlocals hdg (fun H1 locs1 hP _ hS => ?_)
  rw [nI_clamp hn, e0] at hP
  exact kk H1 locs1 (mE_set hE hC hq hP hS)
/-- a method's ends -/
theorem mx_iret {post : Int32 → (Nat → Nat) × mC → Prop} {v : Int32} (hx : p.tables.exec = Jvm.exec) (hb : c.code = cc) (hr : meth.sig.returnType = some .int) (hE : mE G (mA ad M s.heap.size) s.heap ad' M' H locs) (hlocks : meth.locks = false) (hp : post v (ad', M')) (hdg : decode cc pc = .ok (.ireturn, 1)) :
    W p l e R s m args below meth c H locs cells slots (MQ below (va_Qi post (mB G ad M s.heap.size) (mA ad M s.heap.size)) args s cells slots (mA ad M s.heap.size)) (F0 m pc ls [.int v]) :=
  W.iret hx hb hr (fun t ht hW => ⟨⟨v, (ad', M'), rfl, hp, mE_end hE ht⟩, hE.2.2.2.F ht⟩) hE.2.2.2.2.2 hdg hlocks
theorem mx_zret {post : Int32 → (Nat → Nat) × mC → Prop} {v : Int32} (hx : p.tables.exec = Jvm.exec) (hb : c.code = cc) (hr : meth.sig.returnType = some .boolean) (hn : narrow .boolean (.int v) = .int v) (hE : mE G (mA ad M s.heap.size) s.heap ad' M' H locs) (hlocks : meth.locks = false) (hp : post v (ad', M')) (hdg : decode cc pc = .ok (.ireturn, 1)) :
    W p l e R s m args below meth c H locs cells slots (MQ below (va_Qi post (mB G ad M s.heap.size) (mA ad M s.heap.size)) args s cells slots (mA ad M s.heap.size)) (F0 m pc ls [.int v]) :=
  W.zret hx hb hr hn (fun t ht hW => ⟨⟨v, (ad', M'), rfl, hp, mE_end hE ht⟩, hE.2.2.2.F ht⟩) hE.2.2.2.2.2 hdg hlocks
theorem mx_vret {post : (Nat → Nat) × mC → Prop} (hx : p.tables.exec = Jvm.exec) (hb : c.code = cc) (hr : meth.sig.returnType = none) (hE : mE G (mA ad M s.heap.size) s.heap ad' M' H locs) (hlocks : meth.locks = false) (hp : post (ad', M')) (hdg : decode cc pc = .ok (.return_, 1)) :
    W p l e R s m args below meth c H locs cells slots (MQ below (va_Qv post (mB G ad M s.heap.size) (mA ad M s.heap.size)) args s cells slots (mA ad M s.heap.size)) (F0 m pc ls []) :=
  W.vret hx hb hr (fun t ht hW => ⟨⟨(ad', M'), rfl, hp, mE_end hE ht⟩, hE.2.2.2.F ht⟩) hE.2.2.2.2.2 hdg hlocks
theorem mx_aret {post : Option Nat → (Nat → Nat) × mC → Prop} {v : Nat} {C : String} (hx : p.tables.exec = Jvm.exec) (hb : c.code = cc) (hr : meth.sig.returnType = some (.object C)) (hE : mE G (mA ad M s.heap.size) s.heap ad' M' H locs) (hlocks : meth.locks = false) (hp : post (some v) (ad', M')) (hdg : decode cc pc = .ok (.areturn, 1)) :
    W p l e R s m args below meth c H locs cells slots (MQ below (va_Qq post (mB G ad M s.heap.size) (mA ad M s.heap.size)) args s cells slots (mA ad M s.heap.size)) (F0 m pc ls [.ref v]) :=
  W.aret hx hb hr (Or.inl ⟨C, rfl⟩) (Or.inr ⟨v, rfl⟩) (fun t ht hW => ⟨⟨some v, (ad', M'), rfl, hp, mE_end hE ht⟩, hE.2.2.2.F ht⟩) hE.2.2.2.2.2 hdg hlocks
/-- numbers with the answer as it is wanted -/
theorem mv_iadd (hx : p.tables.exec = Jvm.exec) (hb : c.code = cc) {x y z : Int32} (hz : x + y = z) (hdg : decode cc pc = .ok (.iadd, 1)) (k : W p l e R s m args below meth c H locs cells slots Q (F0 m (pc + 1) ls (.int z :: rest))) : W p l e R s m args below meth c H locs cells slots Q (F0 m pc ls (.int y :: .int x :: rest)) := by
  subst hz; exact lv_iadd hx hb hdg k
theorem mv_isub (hx : p.tables.exec = Jvm.exec) (hb : c.code = cc) {x y z : Int32} (hz : x - y = z) (hdg : decode cc pc = .ok (.isub, 1)) (k : W p l e R s m args below meth c H locs cells slots Q (F0 m (pc + 1) ls (.int z :: rest))) : W p l e R s m args below meth c H locs cells slots Q (F0 m pc ls (.int y :: .int x :: rest)) := by
  subst hz; exact lv_isub hx hb hdg k
theorem mv_imul (hx : p.tables.exec = Jvm.exec) (hb : c.code = cc) {x y z : Int32} (hz : x * y = z) (hdg : decode cc pc = .ok (.imul, 1)) (k : W p l e R s m args below meth c H locs cells slots Q (F0 m (pc + 1) ls (.int z :: rest))) : W p l e R s m args below meth c H locs cells slots Q (F0 m pc ls (.int y :: .int x :: rest)) := by
  subst hz; exact lv_imul hx hb hdg k
theorem mv_idiv (hx : p.tables.exec = Jvm.exec) (hb : c.code = cc) {x y z : Int32} (hne : ¬ y = 0) (hz : x / y = z) (hdg : decode cc pc = .ok (.idiv, 1)) (k : W p l e R s m args below meth c H locs cells slots Q (F0 m (pc + 1) ls (.int z :: rest))) : W p l e R s m args below meth c H locs cells slots Q (F0 m pc ls (.int y :: .int x :: rest)) := by
  subst hz; exact lv_idiv hx hb hdg hne k
theorem mv_irem (hx : p.tables.exec = Jvm.exec) (hb : c.code = cc) {x y z : Int32} (hne : ¬ y = 0) (hz : x - x / y * y = z) (hdg : decode cc pc = .ok (.irem, 1)) (k : W p l e R s m args below meth c H locs cells slots Q (F0 m (pc + 1) ls (.int z :: rest))) : W p l e R s m args below meth c H locs cells slots Q (F0 m pc ls (.int y :: .int x :: rest)) := by
  subst hz; exact lv_irem hx hb hdg hne k
theorem mv_ishl (hx : p.tables.exec = Jvm.exec) (hb : c.code = cc) {x y z : Int32} (hz : x <<< (y &&& 31) = z) (hdg : decode cc pc = .ok (.ishl, 1)) (k : W p l e R s m args below meth c H locs cells slots Q (F0 m (pc + 1) ls (.int z :: rest))) : W p l e R s m args below meth c H locs cells slots Q (F0 m pc ls (.int y :: .int x :: rest)) := by
  subst hz; exact lv_ishl hx hb hdg k
theorem mv_ishr (hx : p.tables.exec = Jvm.exec) (hb : c.code = cc) {x y z : Int32} (hz : x >>> (y &&& 31) = z) (hdg : decode cc pc = .ok (.ishr, 1)) (k : W p l e R s m args below meth c H locs cells slots Q (F0 m (pc + 1) ls (.int z :: rest))) : W p l e R s m args below meth c H locs cells slots Q (F0 m pc ls (.int y :: .int x :: rest)) := by
  subst hz; exact lv_ishr hx hb hdg k
theorem mv_iand (hx : p.tables.exec = Jvm.exec) (hb : c.code = cc) {x y z : Int32} (hz : x &&& y = z) (hdg : decode cc pc = .ok (.iand, 1)) (k : W p l e R s m args below meth c H locs cells slots Q (F0 m (pc + 1) ls (.int z :: rest))) : W p l e R s m args below meth c H locs cells slots Q (F0 m pc ls (.int y :: .int x :: rest)) := by
  subst hz; exact lv_iand hx hb hdg k
theorem mv_ior (hx : p.tables.exec = Jvm.exec) (hb : c.code = cc) {x y z : Int32} (hz : x ||| y = z) (hdg : decode cc pc = .ok (.ior, 1)) (k : W p l e R s m args below meth c H locs cells slots Q (F0 m (pc + 1) ls (.int z :: rest))) : W p l e R s m args below meth c H locs cells slots Q (F0 m pc ls (.int y :: .int x :: rest)) := by
  subst hz; exact lv_ior hx hb hdg k
theorem mv_ixor (hx : p.tables.exec = Jvm.exec) (hb : c.code = cc) {x y z : Int32} (hz : x ^^^ y = z) (hdg : decode cc pc = .ok (.ixor, 1)) (k : W p l e R s m args below meth c H locs cells slots Q (F0 m (pc + 1) ls (.int z :: rest))) : W p l e R s m args below meth c H locs cells slots Q (F0 m pc ls (.int y :: .int x :: rest)) := by
  subst hz; exact lv_ixor hx hb hdg k
/-- comparisons of numbers that are known as such -/
theorem mv_ge (hx : p.tables.exec = Jvm.exec) (hb : c.code = cc) {a b : Nat} {off : Int} {tgt : Nat} (ha : a < 2 ^ 31) (hb2 : b < 2 ^ 31) (hdg : decode cc pc = .ok (.if_icmp .ge off, 3)) (ht : (pc : Int) + off = (tgt : Int))
    (kt : b ≤ a → W p l e R s m args below meth c H locs cells slots Q (F0 m tgt ls rest)) (kf : a < b → W p l e R s m args below meth c H locs cells slots Q (F0 m (pc + 3) ls rest)) : W p l e R s m args below meth c H locs cells slots Q (F0 m pc ls (.int (nI b) :: .int (nI a) :: rest)) :=
  lv_icmp_ge hx hb hdg ht (fun h => kt ((nI_leI hb2 ha).mp h)) (fun h => kf (Nat.lt_of_not_le fun h2 => h ((nI_leI hb2 ha).mpr h2)))
theorem mv_lt (hx : p.tables.exec = Jvm.exec) (hb : c.code = cc) {a b : Nat} {off : Int} {tgt : Nat} (ha : a < 2 ^ 31) (hb2 : b < 2 ^ 31) (hdg : decode cc pc = .ok (.if_icmp .lt off, 3)) (ht : (pc : Int) + off = (tgt : Int))
    (kt : a < b → W p l e R s m args below meth c H locs cells slots Q (F0 m tgt ls rest)) (kf : b ≤ a → W p l e R s m args below meth c H locs cells slots Q (F0 m (pc + 3) ls rest)) : W p l e R s m args below meth c H locs cells slots Q (F0 m pc ls (.int (nI b) :: .int (nI a) :: rest)) :=
  lv_icmp_lt hx hb hdg ht (fun h => kt ((nI_ltI ha hb2).mp h)) (fun h => kf (Nat.le_of_not_lt fun h2 => h ((nI_ltI ha hb2).mpr h2)))
theorem mv_gt (hx : p.tables.exec = Jvm.exec) (hb : c.code = cc) {a b : Nat} {off : Int} {tgt : Nat} (ha : a < 2 ^ 31) (hb2 : b < 2 ^ 31) (hdg : decode cc pc = .ok (.if_icmp .gt off, 3)) (ht : (pc : Int) + off = (tgt : Int))
    (kt : b < a → W p l e R s m args below meth c H locs cells slots Q (F0 m tgt ls rest)) (kf : a ≤ b → W p l e R s m args below meth c H locs cells slots Q (F0 m (pc + 3) ls rest)) : W p l e R s m args below meth c H locs cells slots Q (F0 m pc ls (.int (nI b) :: .int (nI a) :: rest)) :=
  lv_icmp_gt hx hb hdg ht (fun h => kt ((nI_ltI hb2 ha).mp h)) (fun h => kf (Nat.le_of_not_lt fun h2 => h ((nI_ltI hb2 ha).mpr h2)))
theorem mv_le (hx : p.tables.exec = Jvm.exec) (hb : c.code = cc) {a b : Nat} {off : Int} {tgt : Nat} (ha : a < 2 ^ 31) (hb2 : b < 2 ^ 31) (hdg : decode cc pc = .ok (.if_icmp .le off, 3)) (ht : (pc : Int) + off = (tgt : Int))
    (kt : a ≤ b → W p l e R s m args below meth c H locs cells slots Q (F0 m tgt ls rest)) (kf : b < a → W p l e R s m args below meth c H locs cells slots Q (F0 m (pc + 3) ls rest)) : W p l e R s m args below meth c H locs cells slots Q (F0 m pc ls (.int (nI b) :: .int (nI a) :: rest)) :=
  lv_icmp_le hx hb hdg ht (fun h => kt ((nI_leI ha hb2).mp h)) (fun h => kf (Nat.lt_of_not_le fun h2 => h ((nI_leI ha hb2).mpr h2)))
theorem mv_eq (hx : p.tables.exec = Jvm.exec) (hb : c.code = cc) {a b : Nat} {off : Int} {tgt : Nat} (ha : a < 2 ^ 31) (hb2 : b < 2 ^ 31) (hdg : decode cc pc = .ok (.if_icmp .eq off, 3)) (ht : (pc : Int) + off = (tgt : Int))
    (kt : a = b → W p l e R s m args below meth c H locs cells slots Q (F0 m tgt ls rest)) (kf : a ≠ b → W p l e R s m args below meth c H locs cells slots Q (F0 m (pc + 3) ls rest)) : W p l e R s m args below meth c H locs cells slots Q (F0 m pc ls (.int (nI b) :: .int (nI a) :: rest)) :=
  lv_icmp_eq hx hb hdg ht (fun h => kt ((nI_eq ha hb2).mp h)) (fun h => kf (fun h2 => h ((nI_eq ha hb2).mpr h2)))
theorem mv_ne (hx : p.tables.exec = Jvm.exec) (hb : c.code = cc) {a b : Nat} {off : Int} {tgt : Nat} (ha : a < 2 ^ 31) (hb2 : b < 2 ^ 31) (hdg : decode cc pc = .ok (.if_icmp .ne off, 3)) (ht : (pc : Int) + off = (tgt : Int))
    (kt : a ≠ b → W p l e R s m args below meth c H locs cells slots Q (F0 m tgt ls rest)) (kf : a = b → W p l e R s m args below meth c H locs cells slots Q (F0 m (pc + 3) ls rest)) : W p l e R s m args below meth c H locs cells slots Q (F0 m pc ls (.int (nI b) :: .int (nI a) :: rest)) :=
  lv_icmp_ne hx hb hdg ht (fun h => kt (fun h2 => h ((nI_eq ha hb2).mpr h2))) (fun h => kf ((nI_eq ha hb2).mp h))
/-- a loop, by what is left to do -/
theorem mx_loop {β : Type} (I : Nat → β → Heap → List Loc → Array Slot → Prop)
    (hs : ∀ (n : Nat) (b : β) (H : Heap) (locs : List Loc) (ls : Array Slot), I n b H locs ls → (∀ (n' : Nat) (b' : β) (H' : Heap) (locs' : List Loc) (ls' : Array Slot), n' < n → I n' b' H' locs' ls' → W p l e R s m args below meth c H' locs' cells slots Q (F0 m pc ls' [])) → W p l e R s m args below meth c H locs cells slots Q (F0 m pc ls [])) :
    ∀ (n : Nat) (b : β) (H : Heap) (locs : List Loc) (ls : Array Slot), I n b H locs ls → W p l e R s m args below meth c H locs cells slots Q (F0 m pc ls []) := by
  intro n
  induction n using Nat.strongRecOn with
  | ind n ih =>
    intro b H locs ls h
    exact hs n b H locs ls h (fun n' b' H' locs' ls' hlt hI => ih n' hlt b' H' locs' ls' hI)
end MROW
/-- a boolean as the machine has it -/
def mb (P : Prop) [Decidable P] : Int32 := if P then 1 else 0
theorem mb_t {P : Prop} [Decidable P] (h : P) : mb P = 1 := if_pos h
theorem mb_f {P : Prop} [Decidable P] (h : ¬ P) : mb P = 0 := if_neg h
theorem mb_0 {P : Prop} [Decidable P] : mb P = 0 ↔ ¬ P := by
  by_cases h : P
  · rw [mb_t h]; exact ⟨fun h2 => absurd h2 (by decide), fun h2 => absurd h h2⟩
  · rw [mb_f h]; exact ⟨fun _ => h, fun _ => rfl⟩
theorem mb_n {P : Prop} [Decidable P] : narrow .boolean (.int (mb P)) = .int (mb P) := by
  by_cases h : P
  · rw [mb_t h]; rfl
  · rw [mb_f h]; rfl
theorem mW_grow {G : va_G} {ad : Nat → Nat} {M : mC} {H H1 : Heap} (h : mW G ad M H) (hq : ∀ q : Nat, q < H.size → H1[q]? = H[q]?) : mW G ad M H1 :=
  ⟨fun k e hk => (h.1 k e hk).kept (hq _ (h.1 k e hk).lt), h.2⟩
abbrev mMd (l : Launch) (y : MethodName) (ws : List Cond) (rm : Room) (G : va_G) (cy : Nat → ClassId) (ad : Nat → Nat) (M : mC) (sz : Nat) (av : List Value) (mc ms : Nat) (post : UInt64 → (Nat → Nat) × mC → Prop) : Prop := Met l y ws rm (va_Pc av (mP G cy ad M sz)) (va_Qd post (mB G ad M sz) (mA ad M sz)) mc ms (mA ad M sz)
section MDR
variable {p : Program} {l : Launch} {e : Env} {R : Room} {s : State} {m : MethodId} {args : Array Value} {below : List Frame} {meth : Method} {c : Code} {H : Heap} {locs : List Loc} {cells slots : Nat}
variable {cc : ByteArray} {pc : Nat} {ls : Array Slot} {G : va_G} {ad ad' : Nat → Nat} {M M' : mC}
theorem mx_dret {post : UInt64 → (Nat → Nat) × mC → Prop} {v : UInt64} (hx : p.tables.exec = Jvm.exec) (hb : c.code = cc) (hr : meth.sig.returnType = some .double) (hE : mE G (mA ad M s.heap.size) s.heap ad' M' H locs) (hlocks : meth.locks = false) (hp : post v (ad', M')) (hdg : decode cc pc = .ok (.dreturn, 1)) :
    W p l e R s m args below meth c H locs cells slots (MQ below (va_Qd post (mB G ad M s.heap.size) (mA ad M s.heap.size)) args s cells slots (mA ad M s.heap.size)) (F0 m pc ls [.double v]) :=
  W.dret hx hb hr (fun t ht hW => ⟨⟨v, (ad', M'), rfl, hp, mE_end hE ht⟩, hE.2.2.2.F ht⟩) hE.2.2.2.2.2 hdg hlocks
end MDR
/-! ===== new cells by name ===== -/
section MNEW
variable {p : Program} {l : Launch} {e : Env} {R : Room} {s : State} {m : MethodId} {args : Array Value} {below : List Frame} {meth : Method} {c : Code} {H : Heap} {locs : List Loc} {cells slots : Nat} {Q : State → Prop}
variable {cc : ByteArray} {pc : Nat} {ls : Array Slot} {rest : List Value} {G : va_G} {cy : Nat → ClassId} {A : Nat → Prop} {ad : Nat → Nat} {M : mC} {k : Nat}
theorem mx_newi (hx : p.tables.exec = Jvm.exec) (hb : c.code = cc) (harr : (Cond.arrayClass (newarray.typeOf .int)).before args s = true) (hN : mN G cy A s) (hE : mE G A s.heap ad M H locs) (w : Nat) (hw : M w = none) (hw5 : w < 500) {x : Int32} {n : Nat} (hxn : x = nI n) (hn : n < 1000) (hcells : cells + 1 ≤ R.cells) (hslots : slots + n ≤ R.slots) (hdg : decode cc pc = .ok (.newarray .int, 2))
    (kk : ∀ (ad' : Nat → Nat) (H : Heap), (∀ j, j ≠ w → ad' j = ad j) → mE G A s.heap ad' (mU M w (.inl (cy 0, n, .inl (fun _ => 0)))) H locs → W p l e R s m args below meth c H locs (cells + 1) (slots + n) Q (F0 m (pc + 2) ls (.ref (ad' w) :: rest))) : W p l e R s m args below meth c H locs cells slots Q (F0 m pc ls (.int x :: rest)) := by
  subst hxn
  refine va_newa (ty := .int) (N' := n) (a0 := (n, .inl (fun _ => 0))) hx hb harr rfl hN.1 (mE_P hE) (mE_D hE) hE.2.2.2 hE.2.2.1 (fun _ => rfl) (nI_pos (by omega)) (nI_clamp (by omega)) (by show n * 4 ≤ _; omega) hcells hslots hdg (fun q cA H1 hK hP hD hS => ?_)
  have h1 := (hK.2 4 (cA, .int) rfl).2
  have h2 := (hK.2 0 (cy 0, .int) rfl).2
  have e9 : cA = cy 0 := Option.some.inj ((show s.vm.findClass _ = some cA from h1).symm.trans (show s.vm.findClass _ = some (cy 0) from h2))
  subst e9
  have h3 := kk (va_up ad w q) H1 (fun j hj => if_neg hj) (mE_new hE hw hw5 hP hD hS)
  rw [show va_up ad w q w = q from if_pos rfl] at h3
  exact h3
theorem mx_newq (hx : p.tables.exec = Jvm.exec) (hb : c.code = cc) {own C : String} {index : Nat} (t : Nat) (ht : (mT cy)[t]? = some (cy t, .object C)) (hown : s.vm.findClass own = some m.cls) (hclink : (Cond.classLink own index C).before args s = true) (hover : va_AO C s) (hN : mN G cy A s) (hE : mE G A s.heap ad M H locs) (w : Nat) (hw : M w = none) (hw5 : w < 500) {x : Int32} {n : Nat} (hxn : x = nI n) (hn : n < 1000) (hcells : cells + 1 ≤ R.cells) (hslots : slots + n ≤ R.slots) (hdg : decode cc pc = .ok (.anewarray index, 3))
    (kk : ∀ (ad' : Nat → Nat) (H : Heap), (∀ j, j ≠ w → ad' j = ad j) → mE G A s.heap ad' (mU M w (.inl (cy t, n, .inr (.inr (.inr (.inr (fun _ => none))))))) H locs → W p l e R s m args below meth c H locs (cells + 1) (slots + n) Q (F0 m (pc + 3) ls (.ref (ad' w) :: rest))) : W p l e R s m args below meth c H locs cells slots Q (F0 m pc ls (.int x :: rest)) := by
  subst hxn
  refine va_newq (C := C) (N' := n) hx hb hown hclink hover hN.1 (mE_P hE) (mE_D hE) hE.2.2.2 hE.2.2.1 (nI_pos (by omega)) (nI_clamp (by omega)) (by omega) hcells hslots hdg (fun q cA H1 hK hP hD hS => ?_)
  obtain ⟨-, -, -, -, -, h1⟩ := (hK.2 4 (cA, .object C) rfl).2
  obtain ⟨-, -, -, -, -, h2⟩ := (hN.1.2 t (cy t, .object C) ht).2
  have e9 : cA = cy t := Option.some.inj (h1.symm.trans h2)
  rw [e9] at hP hD
  have h3 := kk (va_up ad w q) H1 (fun j hj => if_neg hj) (mE_new hE hw hw5 hP hD hS)
  rw [show va_up ad w q w = q from if_pos rfl] at h3
  exact h3
theorem mx_newo {own C : String} {T : u_T} {N ci index : Nat} {Ts : List Cond} (hx : p.tables.exec = Jvm.exec) (hb : c.code = cc) (hts : ∀ w ∈ Ts, w.before args s = true) (hin : ∀ w ∈ u_ws C T N, w ∈ Ts) (ty : Nat → FieldType) (hty : ∀ k, k < N → parseFieldDescriptor (T k).2.2.1 = some (ty k)) (hown : s.vm.findClass own = some m.cls) (hcl : (Cond.classLink own index C).before args s = true) (hinst : (Cond.instantiable C N).before args s = true) (hini : (Cond.initialized C).before args s = true)
    (hN : mN G cy A s) (hE : mE G A s.heap ad M H locs) (hc : vwCl[ci]? = some (C, T, N)) {fs : List Value} (hfs : ∀ j, j < N → defaultValue (ty j) = vp_V fs j) (w : Nat) (hw : M w = none) (hw5 : w < 500) (hcells : cells + 1 ≤ R.cells) (hslots : slots + N ≤ R.slots) (hdg : decode cc pc = .ok (.new index, 3))
    (kk : ∀ (ad' : Nat → Nat) (H : Heap), (∀ j, j ≠ w → ad' j = ad j) → mE G A s.heap ad' (mU M w (.inr (ci, fs))) H locs → W p l e R s m args below meth c H locs (cells + 1) (slots + N) Q (F0 m (pc + 3) ls (.ref (ad' w) :: rest))) : W p l e R s m args below meth c H locs cells slots Q (F0 m pc ls rest) := by
  refine va_new hx hb hts hin ty hty hown hcl hinst hini hN.1 (mE_P hE) (mE_D hE) hE.2.2.2 hE.2.2.1 hc hfs hcells hslots hdg (fun q H1 hP hD hS => ?_)
  have h3 := kk (va_up ad w q) H1 (fun j hj => if_neg hj) (mE_new hE hw hw5 hP hD hS)
  rw [show va_up ad w q w = q from if_pos rfl] at h3
  exact h3
/-- a reference into a row -/
theorem mx_aast (hx : p.tables.exec = Jvm.exec) (hb : c.code = cc) (hN : mN G cy A s) (hE : mE G A s.heap ad M H locs) {k2 ci t n : Nat} {r : vw_C} {cA : ClassId} {vs : List Value} {f : Nat → Option Nat} (hC : M k = some (.inl (cA, n, .inr (.inr (.inr (.inr f)))))) (ht : (mT cy)[t]? = some (cA, .object r.1)) (hV : M k2 = some (.inr (ci, vs))) (hc : vwCl[ci]? = some r) {i : Int32} {j : Nat} (hi : i = nI j) (hj : j < n) (hn : n < 2 ^ 31) (hdg : decode cc pc = .ok (.aastore, 1))
    (kk : ∀ (H : Heap) (locs : List Loc), mE G A s.heap ad (mU M k (.inl (cA, n, .inr (.inr (.inr (.inr (va_up f j (some (ad k2)))))))) ) H locs → W p l e R s m args below meth c H locs cells slots Q (F0 m (pc + 1) ls rest)) : W p l e R s m args below meth c H locs cells slots Q (F0 m pc ls (.ref (ad k2) :: .int i :: .ref (ad k) :: rest)) := by
  subst hi
  obtain ⟨q0, hq⟩ := mL_at (ad := ad) hE.1.2.2 hC
  obtain ⟨q1, hq1⟩ := mL_at (ad := ad) hE.1.2.2 hV
  refine va_astq hx hb hN.1 (mE_P hE) (mE_D hE) hE.2.2.2 q0 t q1 ci hq ht hq1 hc (vp_in_nI hj hn) hdg (fun H1 locs1 hP _ hS => ?_)
  rw [nI_clamp (Nat.lt_trans hj hn)] at hP
  exact kk H1 locs1 (mE_set hE hC hq hP hS)
end MNEW
theorem mU_s (M : mC) (k : Nat) (e : va_E) : mU M k e k = some e := if_pos rfl
theorem mU_n (M : mC) {k j : Nat} (e : va_E) (h : j ≠ k) : mU M k e j = M j := if_neg h
