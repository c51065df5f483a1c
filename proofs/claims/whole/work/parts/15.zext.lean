/-! throwing and catching -/
def zNames : List String := ["java/lang/RuntimeException", "java/lang/Exception"]
def zThr (own : String) (ik ic is : Nat) (E text : String) : Prop := Bundle.fit E = true ∧ Cond.classLink own ik E ∈ zBig ∧ Cond.initialized E ∈ zBig ∧ (own, is, text) ∈ zST ∧ (∀ w ∈ (vx_atS own ic E zNames).filter goodWord, w ∈ zBig) ∧ (∀ w ∈ (vx_atS own ic E zNames).filter (fun w => !goodWord w), w ∈ [Cond.castable E E]) ∧ (E, E) ∈ zCA ∧ ∀ w ∈ vx_atS own ic E zNames, vx_ot w = true
section ZI
variable {X : zX} {M M' : zMd} {d bc bs : Nat} {Q : zO → zS → Prop} {pc : Nat} {ls : List (Option Value)} {st : List Value} {σ : zS}
theorem zat_of {own E text : String} {ik ic is : Nat} {p : Program} {s : State} {m : MethodId} {args : Array Value} {meth : Method} {c : Code} (hM : zM X M p s m args meth c) (hk : zThr own ik ic is E text) : (∀ w ∈ vx_atS own ic E zNames, w.before args s = true) ∧ ∀ w ∈ Cond.classLink own ik E :: Cond.initialized E :: vx_atS own ic E zNames, vx_ot w = true := by
  obtain ⟨h1, h2, h3, h4, h5, h6, h7, h8⟩ := hk
  refine ⟨vx_hat (fun w hw => hM.ws w (h5 w hw)) h6 (vx_c ((hM.N.2.2.1 _ h7).use rfl) vx_n), fun w hw => ?_⟩
  have key : ∀ w, w ∈ zBig → vx_ot w = true := fun w hw => by
    have := (List.mem_filter.mp hw).2
    simp only [vx_ot, this, Bool.or_true]
  rcases List.mem_cons.mp hw with h | h
  · rw [h]; exact key _ h2
  · rcases List.mem_cons.mp h with h | h
    · rw [h]; exact key _ h3
    · exact h8 w h
theorem zr_throwW {ik ic is : Nat} {E text : String} (d0 : decode M.2.1 pc = .ok (.new ik, 3)) (d3 : decode M.2.1 (pc + 3) = .ok (.dup, 1)) (d4 : decode M.2.1 (pc + 4) = .ok (.ldc_w is, 3)) (d7 : decode M.2.1 (pc + 7) = .ok (.invokespecial ic, 3)) (d10 : decode M.2.1 (pc + 10) = .ok (.athrow, 1)) (hk : zThr M.1 ik ic is E text) (htab : M.2.2.2.2.2 = []) (hd : 6 ≤ d) (h1 : 1 ≤ bc) (h2 : 6 ≤ bs) (hcat : (st.map fun v => v.category).sum ≤ 8) (hq : Q (.inr E) (σ.1, none)) : zW X M d bc bs Q pc ls st σ := by
  intro p e s m args below meth c R H locs cells slots r hM hR hc hs hS hP hL
  obtain ⟨g1, g2⟩ := zat_of hM hk
  obtain ⟨k1, k2, k3, k4, -⟩ := hk
  obtain ⟨sa, hsa⟩ := hM.N.2.2.2.2.2 _ k4
  have hst := hM.S.2.2.2.2.2.1
  refine vx_throwSW (names := zNames) hM.1 hM.2.1 hM.2.2.2.2.2.2.2.2.2.1 hM.own k1 (by decide +kernel) (hM.ws _ k2) (hM.ws _ k3) hsa g1 g2 hst.2.2.2.2.2.2.1 hst.2.2.2.2.2.2.2.1 hS (by rw [hM.2.2.1]; exact hL.1) d0 d3 d4 d7 d10 (fun x hx => ?_) (by have := hR.1; show 2 + 3 < _; omega) (by have := hR.2; show _ + (13 * (2 + 1) + 43) ≤ _; omega) (by omega) (by omega) hM.locks (fun t ha hz ho => ⟨(σ.1, none), hq, hP.grow hz ho, Nat.le_trans hS.1 hz, fun q h1 h2 => (ho q (Nat.lt_of_lt_of_le h1 hS.1)).trans (hS.2.1 q h1 h2)⟩) hS.2.2 (by omega) (by omega)
  have h9 := hM.2.2.2.2.2.2.2.2.2.2
  rw [h9, htab] at hx
  cases hx
theorem zr_throwN {ik ic is : Nat} {E text : String} (d0 : decode M.2.1 pc = .ok (.new ik, 3)) (d3 : decode M.2.1 (pc + 3) = .ok (.dup, 1)) (d4 : decode M.2.1 (pc + 4) = .ok (.ldc is, 2)) (d6 : decode M.2.1 (pc + 6) = .ok (.invokespecial ic, 3)) (d9 : decode M.2.1 (pc + 9) = .ok (.athrow, 1)) (hk : zThr M.1 ik ic is E text) (htab : M.2.2.2.2.2 = []) (hd : 6 ≤ d) (h1 : 1 ≤ bc) (h2 : 6 ≤ bs) (hcat : (st.map fun v => v.category).sum ≤ 8) (hq : Q (.inr E) (σ.1, none)) : zW X M d bc bs Q pc ls st σ := by
  intro p e s m args below meth c R H locs cells slots r hM hR hc hs hS hP hL
  obtain ⟨g1, g2⟩ := zat_of hM hk
  obtain ⟨k1, k2, k3, k4, -⟩ := hk
  obtain ⟨sa, hsa⟩ := hM.N.2.2.2.2.2 _ k4
  have hst := hM.S.2.2.2.2.2.1
  refine vx_throwS (names := zNames) hM.1 hM.2.1 hM.2.2.2.2.2.2.2.2.2.1 hM.own k1 (by decide +kernel) (hM.ws _ k2) (hM.ws _ k3) hsa g1 g2 hst.2.2.2.2.2.2.1 hst.2.2.2.2.2.2.2.1 hS (by rw [hM.2.2.1]; exact hL.1) d0 d3 d4 d6 d9 (fun x hx => ?_) (by have := hR.1; show 2 + 3 < _; omega) (by have := hR.2; show _ + (13 * (2 + 1) + 43) ≤ _; omega) (by omega) (by omega) hM.locks (fun t ha hz ho => ⟨(σ.1, none), hq, hP.grow hz ho, Nat.le_trans hS.1 hz, fun q h1 h2 => (ho q (Nat.lt_of_lt_of_le h1 hS.1)).trans (hS.2.1 q h1 h2)⟩) hS.2.2 (by omega) (by omega)
  have h9 := hM.2.2.2.2.2.2.2.2.2.2
  rw [h9, htab] at hx
  cases hx
/-- a call in a method with a table: what is thrown goes to the row that takes it -/
def zHas (own : String) (tb : List (Nat × Nat × Nat × Nat)) (pc : Nat) (E : String) (hpc : Nat) : Prop := ∃ (pre : List ExceptionTableEntry) (x : ExceptionTableEntry) (suf : List ExceptionTableEntry) (name : String), tableOf tb = pre ++ x :: suf ∧ (∀ z ∈ pre, covers z pc = false ∨ (z.catchType ≠ 0 ∧ ∃ nm : String, Cond.classLink own z.catchType nm ∈ zBig ∧ (E, nm) ∈ zNC)) ∧ covers x pc = true ∧ x.catchType ≠ 0 ∧ Cond.classLink own x.catchType name ∈ zBig ∧ (E, name) ∈ zCA ∧ x.handlerPc = hpc
theorem zr_callVc {Q' : zO → zS → Prop} {idx n ci d' mc ms b : Nat} {y : MethodName} {vs rest fs : List Value} (hd : decode M.2.1 pc = .ok (.invokevirtual idx, 3)) (hk : zLkV M.1 idx y M' n ci) (hm : zMet X M' y d' mc ms (.ref b :: vs) σ Q') (hd' : d' + 1 ≤ d) (h1 : mc ≤ bc) (h2 : ms ≤ bs) (hn : vs.length = n) (hst : st = vs.reverse ++ .ref b :: rest) (hcat : (rest.map fun v => v.category).sum ≤ 8) (hσ : σ.1 b = .inr (ci, fs)) (h99 : ci ≠ 99)
    (kr : ∀ (v : Option Value) (σ' : zS), Q' (.inl v) σ' → zW X M d (bc - mc) (bs - ms) Q (pc + 3) ls (v.toList ++ rest) σ') (kx : ∀ (E : String) (σ' : zS), Q' (.inr E) σ' → ∃ hpc : Nat, zHas M.1 M.2.2.2.2.2 pc E hpc ∧ ∀ q : Nat, zW X M d (bc - mc) (bs - ms) Q hpc ls [.ref q] σ') : zW X M d bc bs Q pc ls st σ := by
  intro p e s m args below meth c R H locs cells slots r hM hR hc hs hS hP hL
  obtain ⟨hlk, w1, w2, w3, T, N, hcl⟩ := hk
  have hat := (hP.at hσ (by simp [zN, h99])).2
  refine zcall hM hR hc hs hS hL h1 h2 (vx_runV (As := vs) (rest := rest) ⟨hM.1, hM.2.1, hM.2.2.1, hM.own, hM.ws⟩ hm ⟨zB_of hM hR hlk w1 hd', hM.ws _ w2, hM.ws _ w3⟩ ⟨zPc_blind X σ _, va_recv (q0 := 0) (fs := fs) (ws := [(b, zc X (.inr (ci, fs)))]) hM.K (zone hat) hcl rfl, zpre hM.S hS hP⟩ rfl hn hL.1 hst (lv_room hcat) hd ⟨by omega, by omega⟩) kr (fun E σ' hq H1 locs1 q ce g1 g2 g3 g4 g5 => ?_)
  obtain ⟨hpc, ⟨pre, x, suf, name, t1, t2, t3, t4, t5, t6, t7⟩, hw⟩ := kx E σ' hq
  subst t7
  refine vx_catch hM.own pre x suf (hM.2.2.2.2.2.2.2.2.2.2.trans t1) (fun z hz => ?_) t3 t4 (hM.ws _ t5) ((hM.N.2.2.1 _ t6).use rfl) g3 g4 g5 (hw q p e s m args below meth c R H1 locs1 (cells + mc) (slots + ms) r hM hR (by omega) (by omega) g1 g2 hL)
  rcases t2 z hz with h | ⟨h3, nm, h4, h5⟩
  · exact Or.inl h
  · exact Or.inr ⟨h3, nm, hM.ws _ h4, hM.N.2.2.2.1 _ h5⟩
/-- a static call of a method that has a table -/
def zLkH (own : String) (idx : Nat) (y : MethodName) (M' : zMd) (n : Nat) : Prop := Cond.initialized y.cls ∈ zBig ∧ Cond.codeWith y M'.2.1 M'.2.2.1 M'.2.2.2.1 M'.2.2.2.2.2 ∈ zBig ∧ (y.cls ≠ "java/lang/invoke/MethodHandle" ∧ y.cls ≠ "java/lang/invoke/VarHandle" ∧ (parseMethodDescriptor y.desc).map (fun d => d.parameters.length) = some n) ∧ M'.2.2.1 ≤ 31 ∧ Cond.static y ∈ zBig ∧ Cond.methodLink own idx y ∈ zBig
theorem zr_callH {Q' : zO → zS → Prop} {idx n d' mc ms : Nat} {y : MethodName} {vs rest : List Value} (hd : decode M.2.1 pc = .ok (.invokestatic idx, 3)) (hk : zLkH M.1 idx y M' n) (hm : zMetH X M' y d' mc ms vs σ Q') (hd' : d' + 1 ≤ d) (h1 : mc ≤ bc) (h2 : ms ≤ bs) (hn : vs.length = n) (hst : st = vs.reverse ++ rest) (hcat : (rest.map fun v => v.category).sum ≤ 8) (htab : M.2.2.2.2.2 = [])
    (kr : ∀ (v : Option Value) (σ' : zS), Q' (.inl v) σ' → zW X M d (bc - mc) (bs - ms) Q (pc + 3) ls (v.toList ++ rest) σ') (kx : ∀ (E : String) (σ' : zS), Q' (.inr E) σ' → Q (.inr E) σ') : zW X M d bc bs Q pc ls st σ := by
  intro p e s m args below meth c R H locs cells slots r hM hR hc hs hS hP hL
  obtain ⟨k1, k2, k3, k4, w1, w2⟩ := hk
  refine zcall hM hR hc hs hS hL h1 h2 (vx_runSX (As := vs) (rest := rest) ⟨hM.1, hM.2.1, hM.2.2.1, hM.own, hM.ws⟩ hm (vx_cwSW n hM.ws (fun w hw => ?_) rfl rfl rfl k3 ⟨by have := hR.1; show d' + 1 ≤ _; omega, by have := hR.2; show 8 + (_ + 11) + (100 + 50 * d') ≤ _; omega⟩) ⟨zPc_blind X σ _, zpre hM.S hS hP⟩ rfl hn hL.1 hst (lv_room hcat) hd ⟨by omega, by omega⟩) kr (fun E σ' hq H1 locs1 q ce g1 g2 g3 g4 g5 => zout hM htab (by omega) (by omega) g1 g2 g3 g4 g5 (kx E σ' hq))
  have hb : w ∈ zBig := by
    rcases List.mem_append.mp hw with h | h
    · rcases List.mem_cons.mp h with h | h
      · rw [h]; exact w2
      · rcases List.mem_cons.mp h with h | h
        · rw [h]; exact w1
        · rw [List.mem_singleton.mp h]; exact k1
    · rcases List.mem_cons.mp h with h | h
      · rw [h]; exact k2
      · exact h
  exact ⟨hb, zgood hb⟩
end ZI
