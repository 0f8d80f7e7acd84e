section MCAU
variable {p : Program} {l : Launch} {e : Env} {R : Room} {s : State} {m : MethodId} {args : Array Value} {below : List Frame} {meth : Method} {c : Code} {H : Heap} {locs : List Loc} {cells slots : Nat} {Q : State → Prop}
variable {pc : Nat} {ls : Array Slot} {rest st0 : List Value} {G : va_G} {A : Nat → Prop} {ad : Nat → Nat} {M : mC}
/-- a call of a method that throws, caught here -/
theorem mx_caught {E0 : String} {mc1 ms1 : Nat} (hr : vx_Run p l e R s m args below meth c H locs cells slots mc1 ms1 (F0 m pc ls st0) rest (fun _ _ _ => False) (mXC E0 G ad M H.size) (mA ad M H.size)) (hE : mE G A s.heap ad M H locs)
    (kk : ∀ (q : Nat) (ce : Cell) (H1 : Heap) (locs1 : List Loc), H1[q]? = some ce → ce.vm = .none → s.vm.findClass E0 = some ce.cls → mE G A s.heap ad M H1 locs1 → vx_W p l e R s m args below meth c H1 locs1 (cells + mc1) (slots + ms1) Q (F0 m pc ls rest) q) : W p l e R s m args below meth c H locs cells slots Q (F0 m pc ls st0) := by
  intro T hT X
  rcases hr T hT X with ⟨v, st₀, t, T', L, h0, X', hL, e1, e2, hq, st⟩ | ⟨q, st₀, t, T', L, E, ce, h0, X', hL, e1, e2, ⟨u, hp, ⟨rfl, hB⟩, hF⟩, hce, hcv, hcl, st⟩
  · exact hq.elim
  · obtain ⟨k1, k2, k3⟩ := vx_keep h0 e1 hE.2.2.2 (fun q _ h => mE_A hE q h) (mE_A hE) hL hF
    have hE' := mE_call hE hB e1.symm k3
    obtain ⟨t2, a1, b1⟩ := kk q ce T'.heap _ (by rw [e1]; exact hce) hcv hcl hE' T' rfl X'
    exact ⟨t2, st.trans a1, b1⟩
end MCAU
