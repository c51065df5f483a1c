/-! calls -/
def zws (y : MethodName) (M : zMd) : List Cond := Cond.code y M.2.1 M.2.2.1 M.2.2.2.1 :: zBig
def zwsH (y : MethodName) (M : zMd) : List Cond := Cond.codeWith y M.2.1 M.2.2.1 M.2.2.2.1 M.2.2.2.2.2 :: zBig
def zrm (d mc ms : Nat) : Room := { frames := d, cells := mc, slots := ms, locals := 100 + 50 * d }
def zPc (X : zX) (σ : zS) : State → Prop := fun U => zRep X σ U.heap ∧ zS0 X U U.heap
def zMet (X : zX) (M : zMd) (y : MethodName) (d mc ms : Nat) (vs : List Value) (σ : zS) (Q : zO → zS → Prop) : Prop :=
  vx_Met X.1 y (zws y M) (zrm d mc ms) (va_Pc vs (zPc X σ)) (zQc X Q) (zXC X Q) mc ms (zA X)
def zMetH (X : zX) (M : zMd) (y : MethodName) (d mc ms : Nat) (vs : List Value) (σ : zS) (Q : zO → zS → Prop) : Prop :=
  vx_Met X.1 y (zwsH y M) (zrm d mc ms) (va_Pc vs (zPc X σ)) (zQc X Q) (zXC X Q) mc ms (zA X)
theorem zgood {w : Cond} (h : w ∈ zBig) : (w.onTables && w.keeps) = true ∨ ∃ ty, w = .arrayClass ty := good_of_word (List.mem_filter.mp h).2
def zargl : List Value → List (Option Value)
  | [] => []
  | v :: vs => match v with
    | .long _ => some v :: none :: zargl vs
    | .double _ => some v :: none :: zargl vs
    | _ => some v :: zargl vs
theorem zargl_in : ∀ (vs : List Value) (k i : Nat) (v : Value), (zargl vs)[i]? = some (some v) → (k + i, v) ∈ lv_args k vs := by
  intro vs
  induction vs with
  | nil => intro k i v h; simp [zargl] at h
  | cons w vs ih =>
    intro k i v h
    have one : ∀ (hc : w.category = 1), (some w :: zargl vs)[i]? = some (some v) → (k + i, v) ∈ lv_args k (w :: vs) := by
      intro hc h
      cases i with
      | zero => simp at h; subst h; simp [lv_args]
      | succ j =>
        rw [List.getElem?_cons_succ] at h
        have := ih (k + 1) j v h
        simp only [lv_args, hc]
        refine List.mem_cons_of_mem _ ?_
        rw [show k + (j + 1) = k + 1 + j by omega]
        simpa using this
    have two : ∀ (hc : w.category = 2), (some w :: none :: zargl vs)[i]? = some (some v) → (k + i, v) ∈ lv_args k (w :: vs) := by
      intro hc h
      cases i with
      | zero => simp at h; subst h; simp [lv_args]
      | succ j =>
        cases j with
        | zero => simp at h
        | succ j =>
          rw [List.getElem?_cons_succ, List.getElem?_cons_succ] at h
          have := ih (k + 2) j v h
          simp only [lv_args, hc]
          refine List.mem_cons_of_mem _ ?_
          rw [show k + (j + 1 + 1) = k + 2 + j by omega]
          simpa using this
    cases w <;> first | exact two rfl h | exact one rfl h
theorem zargs_L {r : Array Slot} {nL : Nat} {vs : List Value} (h : lv_has r nL (lv_args 0 vs)) {ls : List (Option Value)} (hl : zargl vs ++ List.replicate (nL - (zargl vs).length) none = ls) : zL r nL ls := by
  subst hl
  refine ⟨h.1, h.2.1, fun i v hv => h.2.2 (i, v) ?_⟩
  by_cases e : i < (zargl vs).length
  · rw [List.getElem?_append_left e] at hv
    have := zargl_in vs 0 i v hv
    simpa using this
  · rw [List.getElem?_append_right (by omega)] at hv
    have h1 := List.mem_of_getElem? hv
    have h2 := (List.mem_replicate.mp h1).2
    cases h2
theorem zPc_blind (X : zX) (σ : zS) (vs : List Value) : FrameBlind (va_Pc vs (zPc X σ)) := fun a U g mk q => ⟨q.1, q.2.1, zS0.enter (U := U.calling g mk a) (s := U) (State.WarmedH.refl U) (Nat.le_refl _) (fun _ _ _ => rfl) q.2.2⟩
section ZH
variable {X : zX} {M M' : zMd} {d bc bs : Nat} {Q : zO → zS → Prop} {pc : Nat} {ls : List (Option Value)} {st : List Value} {σ : zS}
theorem zMet_of {y : MethodName} {vs : List Value} (hh : M.2.2.2.2.2 = []) (hy : plainName y.cls = true) (hown : M.1 = y.cls) (hini : M.2.2.2.2.1 = true → y.name = "<init>") (hst : X.1.stackTraces = false) (hsz : (lg_sl vs).length ≤ M.2.2.1) (hl : zargl vs ++ List.replicate (M.2.2.1 - (zargl vs).length) none = ls) (body : zW X M d bc bs Q 0 ls [] σ) : zMet X M y d bc bs vs σ Q := by
  refine vx_ofW (cc := M.2.1) (maxL := M.2.2.1) (ret := M.2.2.2.1) hy rfl ?_
  intro p e s m args below meth c s₁ B hml ht hv
  obtain ⟨rfl, hP, hS0⟩ := hv
  have hts := atoms_spec (ws := zws y M) B.pre
  rw [lg_entry_eq]
  refine body p e s m _ below meth c (zrm d bc bs) s.heap [] 0 0 _ ⟨B.exec, B.bytes, hml, B.returns, B.notSynchronized, by rw [hown]; exact findClass_of_methodNamed B.named, fun w hw => hts w (List.mem_cons_of_mem _ hw), hS0, fun hi => (name_of_methodNamed B.named B.method).1.trans (hini hi), hst, ?_⟩ ⟨Nat.le_refl _, Nat.le_refl _⟩ (Nat.le_of_eq (Nat.zero_add _)) (Nat.le_of_eq (Nat.zero_add _)) va_S.rf hP (zargs_L (lv_entry vs hsz) hl)
  rw [hh]
  cases hq : c.exceptionTable.toList with
  | nil => rfl
  | cons x xs => exact (ht x (by rw [hq]; exact List.mem_cons_self)).elim
theorem zMetH_of {y : MethodName} {vs : List Value} (hy : plainName y.cls = true) (hown : M.1 = y.cls) (hini : M.2.2.2.2.1 = false) (hst : X.1.stackTraces = false) (hsz : (lg_sl vs).length ≤ M.2.2.1) (hl : zargl vs ++ List.replicate (M.2.2.1 - (zargl vs).length) none = ls) (body : zW X M d bc bs Q 0 ls [] σ) : zMetH X M y d bc bs vs σ Q := by
  refine vx_ofWH (cc := M.2.1) (maxL := M.2.2.1) (ret := M.2.2.2.1) hy rfl ?_
  intro p e s m args below meth c s₁ B hml hv
  obtain ⟨rfl, hP, hS0⟩ := hv
  have hts := atoms_spec (ws := zwsH y M) B.pre
  rw [lg_entry_eq]
  exact body p e s m _ below meth c (zrm d bc bs) s.heap [] 0 0 _ ⟨B.exec, B.bytes, hml, B.returns, B.notSynchronized, by rw [hown]; exact findClass_of_methodNamed B.named, fun w hw => hts w (List.mem_cons_of_mem _ hw), hS0, fun hi => (by rw [hini] at hi; cases hi), hst, vx_table (x := y) (y := y) B (hts (Cond.codeWith y M.2.1 M.2.2.1 M.2.2.2.1 M.2.2.2.2.2) List.mem_cons_self)⟩ ⟨Nat.le_refl _, Nat.le_refl _⟩ (Nat.le_of_eq (Nat.zero_add _)) (Nat.le_of_eq (Nat.zero_add _)) va_S.rf hP (zargs_L (lv_entry vs hsz) hl)
/-- what comes behind a call -/
theorem zcall {Q' : zO → zS → Prop} {mc ms : Nat} {a : Array Value} {rest : List Value} {p : Program} {e : Env} {s : State} {m : MethodId} {args : Array Value} {below : List Frame} {meth : Method} {c : Code} {R : Room} {H : Heap} {locs : List Loc} {cells slots : Nat} {r : Array Slot}
    (hM : zM X M p s m args meth c) (hR : zR d R) (hc : cells + bc ≤ R.cells) (hs : slots + bs ≤ R.slots) (hS : va_S (zA X) s.heap H locs) (hL : zL r M.2.2.1 ls) (h1 : mc ≤ bc) (h2 : ms ≤ bs)
    (hr : vx_Run p X.1 e R s m args below meth c H locs cells slots mc ms (F0 m pc r st) rest (zQc X Q' a) (zXC X Q') (zA X))
    (kr : ∀ (v : Option Value) (σ' : zS), Q' (.inl v) σ' → zW X M d (bc - mc) (bs - ms) Q (pc + 3) ls (v.toList ++ rest) σ')
    (kx : ∀ (E : String) (σ' : zS), Q' (.inr E) σ' → ∀ (H1 : Heap) (locs1 : List Loc) (q : Addr) (ce : Cell), va_S (zA X) s.heap H1 locs1 → zRep X σ' H1 → H1[q]? = some ce → ce.vm = .none → s.vm.findClass E = some ce.cls → vx_W p X.1 e R s m args below meth c H1 locs1 (cells + mc) (slots + ms) (vx_MQ below (zQc X Q) (zXC X Q) args s R.cells R.slots (zA X)) (F0 m pc r rest) q) :
    W p X.1 e R s m args below meth c H locs cells slots (vx_MQ below (zQc X Q) (zXC X Q) args s R.cells R.slots (zA X)) (F0 m pc r st) := by
  intro T hT X9
  rcases hr T hT X9 with ⟨v, st₀, t, T', L, h0, X', hL', e1, e2, ⟨v', σ', ev, hq, hrep, hF⟩, stp⟩ | ⟨q, st₀, t, T', L, E, ce, h0, X', hL', e1, e2, ⟨σ', hq, hrep, hF⟩, hce, hcv, hcl, stp⟩
  · cases ev
    obtain ⟨k1, k2, k3⟩ := vx_keep h0 e1 hS (fun _ _ h => h) (fun _ h => h) hL' hF
    obtain ⟨t2, a1, b1⟩ := kr v σ' hq p e s m args below meth c R T'.heap (locs ++ L) (cells + mc) (slots + ms) r hM hR (by omega) (by omega) k3 (by rw [e1]; exact hrep) hL T' rfl X'
    exact ⟨t2, stp t2 a1, b1⟩
  · obtain ⟨k1, k2, k3⟩ := vx_keep h0 e1 hS (fun _ _ h => h) (fun _ h => h) hL' hF
    obtain ⟨t2, a1, b1⟩ := kx E σ' hq T'.heap (locs ++ L) q ce k3 (by rw [e1]; exact hrep) (by rw [e1]; exact hce) hcv hcl T' rfl X'
    exact ⟨t2, stp.trans a1, b1⟩
/-- not caught here -/
theorem zout {E : String} {rest : List Value} {p : Program} {e : Env} {s : State} {m : MethodId} {args : Array Value} {below : List Frame} {meth : Method} {c : Code} {R : Room} {H : Heap} {locs : List Loc} {cells slots : Nat} {r : Array Slot} {q : Addr} {ce : Cell}
    (hM : zM X M p s m args meth c) (htab : M.2.2.2.2.2 = []) (hc : cells ≤ R.cells) (hs : slots ≤ R.slots) (hS : va_S (zA X) s.heap H locs) (hP : zRep X σ H) (hce : H[q]? = some ce) (hcv : ce.vm = .none) (hcl : s.vm.findClass E = some ce.cls) (hq : Q (.inr E) σ) :
    vx_W p X.1 e R s m args below meth c H locs cells slots (vx_MQ below (zQc X Q) (zXC X Q) args s R.cells R.slots (zA X)) (F0 m pc r rest) q := by
  refine vx_out (fun x hx => ?_) hM.locks hce hcv hcl (fun t ht _ => ⟨σ, hq, by rw [ht]; exact hP, hS.F ht⟩) hS.2.2 hc hs
  have h9 := hM.2.2.2.2.2.2.2.2.2.2
  rw [h9, htab] at hx
  cases hx
/-- a link to a method: what the tables say -/
def zLk (y : MethodName) (M' : zMd) (n : Nat) : Prop := Cond.initialized y.cls ∈ zBig ∧ Cond.code y M'.2.1 M'.2.2.1 M'.2.2.2.1 ∈ zBig ∧ (y.cls ≠ "java/lang/invoke/MethodHandle" ∧ y.cls ≠ "java/lang/invoke/VarHandle" ∧ (parseMethodDescriptor y.desc).map (fun d => d.parameters.length) = some n) ∧ M'.2.2.1 ≤ 31
def zLkV (own : String) (idx : Nat) (y : MethodName) (M' : zMd) (n ci : Nat) : Prop := zLk y M' n ∧ Cond.methodLink own idx y ∈ zBig ∧ Cond.instanceMethod y ∈ zBig ∧ Cond.selects y.cls y y ∈ zBig ∧ ∃ (T : u_T) (N : Nat), zcl[ci]? = some (y.cls, T, N)
def zLkS (own : String) (idx : Nat) (y : MethodName) (M' : zMd) (n : Nat) : Prop := zLk y M' n ∧ Cond.static y ∈ zBig ∧ (Cond.methodLink own idx y ∈ zBig ∨ (own, idx, y) ∈ zMN)
def zLkI (own : String) (idx : Nat) (y : MethodName) (M' : zMd) (n : Nat) : Prop := zLk y M' n ∧ y.name = "<init>" ∧ M'.2.2.2.1 = none ∧ Cond.instanceMethod y ∈ zBig ∧ (Cond.methodLink own idx y ∈ zBig ∨ (own, idx, y) ∈ zMN)
theorem zpay {s : State} {args : Array Value} {ws : List Cond} (h : ∀ w ∈ zBig, w.before args s = true) (hw : ∀ w ∈ ws, w ∈ zBig) : ∀ w ∈ ws, ∀ (a' : Array Value) (U : State), s.WarmedH U.vm → w.before a' U = true := fun w h1 a' U hW => word_at hW (zgood (hw w h1)) (h w (hw w h1))
theorem zB_of {y : MethodName} {own : String} {idx n d' mc ms : Nat} {p : Program} {s : State} {m : MethodId} {args : Array Value} {meth : Method} {c : Code} {R : Room} (hM : zM X M p s m args meth c) (hR : zR d R) (hk : zLk y M' n) (hl : Cond.methodLink own idx y ∈ zBig) (hd' : d' + 1 ≤ d) : CallB R s args own idx y M'.2.1 M'.2.2.1 M'.2.2.2.1 (zws y M') (zrm d' mc ms) mc ms n := by
  obtain ⟨k1, k2, ⟨k3, k4, k5⟩, k6⟩ := hk
  refine ⟨rfl, rfl, ?_, ?_, zpay hM.ws (fun w hw => ?_), List.mem_cons_self, hM.ws _ k2, hM.ws _ k1, ⟨k3, k4⟩, fun sig h => ?_, hM.ws _ hl⟩
  · have := hR.1; show d' + 1 ≤ _; omega
  · have := hR.2; show 8 + (_ + 11) + (100 + 50 * d') ≤ _; omega
  · rcases List.mem_cons.mp hw with h | h
    · rw [h]; exact k2
    · exact h
  · rw [h] at k5
    exact (Option.some.inj k5).symm
theorem zCN_of {y : MethodName} {own : String} {idx n d' mc ms : Nat} {p : Program} {s : State} {m : MethodId} {args : Array Value} {meth : Method} {c : Code} {R : Room} (hM : zM X M p s m args meth c) (hR : zR d R) (hk : zLk y M' n) (hl : (own, idx, y) ∈ zMN) (hd' : d' + 1 ≤ d) : va_CN R s args own idx y "BraidCourt" M'.2.1 M'.2.2.1 M'.2.2.2.1 (zws y M') (zrm d' mc ms) mc ms n := by
  obtain ⟨k1, k2, ⟨k3, k4, k5⟩, k6⟩ := hk
  refine ⟨⟨rfl, rfl, ?_, ?_, zpay hM.ws (fun w hw => ?_), List.mem_cons_self⟩, hM.ws _ k2, hM.ws _ k1, ⟨k3, k4⟩, fun sig h => ?_, (hM.N.2.1 _ hl).use rfl⟩
  · have := hR.1; show d' + 1 ≤ _; omega
  · have := hR.2; show 8 + (_ + 11) + (100 + 50 * d') ≤ _; omega
  · rcases List.mem_cons.mp hw with h | h
    · rw [h]; exact k2
    · exact h
  · rw [h] at k5
    exact (Option.some.inj k5).symm
theorem zpre {s : State} {H : Heap} {locs : List Loc} {vs : List Value} (hS0 : zS0 X s s.heap) (hS : va_S (zA X) s.heap H locs) (hP : zRep X σ H) : ∀ U : State, U.heap = H → s.WarmedH U.vm → va_Pc vs (zPc X σ) vs.toArray U := fun U hU hW => ⟨rfl, by rw [hU]; exact hP, by rw [hU]; exact zS0.enter hW hS.1 hS.2.1 hS0⟩
theorem zr_callV {Q' : zO → zS → Prop} {idx n ci d' mc ms b : Nat} {y : MethodName} {vs rest fs : List Value} (hd : decode M.2.1 pc = .ok (.invokevirtual idx, 3)) (hk : zLkV M.1 idx y M' n ci) (hm : zMet X M' y d' mc ms (.ref b :: vs) σ Q') (hd' : d' + 1 ≤ d) (h1 : mc ≤ bc) (h2 : ms ≤ bs) (hn : vs.length = n) (hst : st = vs.reverse ++ .ref b :: rest) (hcat : (rest.map fun v => v.category).sum ≤ 8) (hσ : σ.1 b = .inr (ci, fs)) (h99 : ci ≠ 99) (htab : M.2.2.2.2.2 = [])
    (kr : ∀ (v : Option Value) (σ' : zS), Q' (.inl v) σ' → zW X M d (bc - mc) (bs - ms) Q (pc + 3) ls (v.toList ++ rest) σ') (kx : ∀ (E : String) (σ' : zS), Q' (.inr E) σ' → Q (.inr E) σ') : zW X M d bc bs Q pc ls st σ := by
  intro p e s m args below meth c R H locs cells slots r hM hR hc hs hS hP hL
  obtain ⟨hlk, w1, w2, w3, T, N, hcl⟩ := hk
  have hat := (hP.at hσ (by simp [zN, h99])).2
  refine zcall hM hR hc hs hS hL h1 h2 (vx_runV (As := vs) (rest := rest) ⟨hM.1, hM.2.1, hM.2.2.1, hM.own, hM.ws⟩ hm ⟨zB_of hM hR hlk w1 hd', hM.ws _ w2, hM.ws _ w3⟩ ⟨zPc_blind X σ _, va_recv (q0 := 0) (fs := fs) (ws := [(b, zc X (.inr (ci, fs)))]) hM.K (zone hat) hcl rfl, zpre hM.S hS hP⟩ rfl hn hL.1 hst (lv_room hcat) hd ⟨by omega, by omega⟩) kr (fun E σ' hq H1 locs1 q ce g1 g2 g3 g4 g5 => zout hM htab (by omega) (by omega) g1 g2 g3 g4 g5 (kx E σ' hq))
theorem zr_callS {Q' : zO → zS → Prop} {idx n d' mc ms : Nat} {y : MethodName} {vs rest : List Value} (hd : decode M.2.1 pc = .ok (.invokestatic idx, 3)) (hk : zLkS M.1 idx y M' n) (hm : zMet X M' y d' mc ms vs σ Q') (hd' : d' + 1 ≤ d) (h1 : mc ≤ bc) (h2 : ms ≤ bs) (hn : vs.length = n) (hst : st = vs.reverse ++ rest) (hcat : (rest.map fun v => v.category).sum ≤ 8) (htab : M.2.2.2.2.2 = [])
    (kr : ∀ (v : Option Value) (σ' : zS), Q' (.inl v) σ' → zW X M d (bc - mc) (bs - ms) Q (pc + 3) ls (v.toList ++ rest) σ') (kx : ∀ (E : String) (σ' : zS), Q' (.inr E) σ' → Q (.inr E) σ') : zW X M d bc bs Q pc ls st σ := by
  intro p e s m args below meth c R H locs cells slots r hM hR hc hs hS hP hL
  obtain ⟨hlk, w1, w2⟩ := hk
  rcases w2 with w2 | w2
  · refine zcall hM hR hc hs hS hL h1 h2 (vx_runS (As := vs) (rest := rest) ⟨hM.1, hM.2.1, hM.2.2.1, hM.own, hM.ws⟩ hm ⟨zB_of hM hR hlk w2 hd', hM.ws _ w1⟩ ⟨zPc_blind X σ _, zpre hM.S hS hP⟩ rfl hn hL.1 hst (lv_room hcat) hd ⟨by omega, by omega⟩) kr (fun E σ' hq H1 locs1 q ce g1 g2 g3 g4 g5 => zout hM htab (by omega) (by omega) g1 g2 g3 g4 g5 (kx E σ' hq))
  · refine zcall hM hR hc hs hS hL h1 h2 (vx_runSN (As := vs) (rest := rest) ⟨hM.1, hM.2.1, hM.2.2.1, hM.own, hM.ws⟩ hm ⟨zCN_of hM hR hlk w2 hd', hM.ws _ w1, trivial⟩ ⟨zPc_blind X σ _, zpre hM.S hS hP⟩ rfl hn hL.1 hst (lv_room hcat) hd ⟨by omega, by omega⟩) kr (fun E σ' hq H1 locs1 q ce g1 g2 g3 g4 g5 => zout hM htab (by omega) (by omega) g1 g2 g3 g4 g5 (kx E σ' hq))
theorem zr_callI {Q' : zO → zS → Prop} {idx n d' mc ms b : Nat} {y : MethodName} {vs rest : List Value} (hd : decode M.2.1 pc = .ok (.invokespecial idx, 3)) (hk : zLkI M.1 idx y M' n) (hm : zMet X M' y d' mc ms (.ref b :: vs) σ Q') (hd' : d' + 1 ≤ d) (h1 : mc ≤ bc) (h2 : ms ≤ bs) (hn : vs.length = n) (hst : st = vs.reverse ++ .ref b :: rest) (hcat : (rest.map fun v => v.category).sum ≤ 8) (htab : M.2.2.2.2.2 = [])
    (kr : ∀ (v : Option Value) (σ' : zS), Q' (.inl v) σ' → zW X M d (bc - mc) (bs - ms) Q (pc + 3) ls (v.toList ++ rest) σ') (kx : ∀ (E : String) (σ' : zS), Q' (.inr E) σ' → Q (.inr E) σ') : zW X M d bc bs Q pc ls st σ := by
  intro p e s m args below meth c R H locs cells slots r hM hR hc hs hS hP hL
  obtain ⟨hlk, hy, hnone, w1, w2⟩ := hk
  obtain ⟨M1, M2, M3, M4, M5⟩ := M'
  dsimp only at hnone
  subst hnone
  rcases w2 with w2 | w2
  · refine zcall hM hR hc hs hS hL h1 h2 (vx_runI (As := vs) (rest := rest) ⟨hM.1, hM.2.1, hM.2.2.1, hM.own, hM.ws⟩ hm ⟨zB_of hM hR hlk w2 hd', hy, hM.ws _ w1⟩ ⟨zPc_blind X σ _, zpre hM.S hS hP⟩ rfl hn hL.1 hst (lv_room hcat) hd ⟨by omega, by omega⟩) kr (fun E σ' hq H1 locs1 q ce g1 g2 g3 g4 g5 => zout hM htab (by omega) (by omega) g1 g2 g3 g4 g5 (kx E σ' hq))
  · refine zcall hM hR hc hs hS hL h1 h2 (vx_runIN (As := vs) (rest := rest) ⟨hM.1, hM.2.1, hM.2.2.1, hM.own, hM.ws⟩ hm ⟨zCN_of hM hR hlk w2 hd', hy, hM.ws _ w1⟩ ⟨zPc_blind X σ _, zpre hM.S hS hP⟩ rfl hn hL.1 hst (lv_room hcat) hd ⟨by omega, by omega⟩) kr (fun E σ' hq H1 locs1 q ce g1 g2 g3 g4 g5 => zout hM htab (by omega) (by omega) g1 g2 g3 g4 g5 (kx E σ' hq))
end ZH
