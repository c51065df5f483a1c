def zkl (ls : List (Option Value)) : List (Nat × Value) := (List.range ls.length).filterMap (fun i => match ls[i]? with
  | some (some v) => some (i, v)
  | _ => none)
theorem zkl_iff {ls : List (Option Value)} {i : Nat} {v : Value} : (i, v) ∈ zkl ls ↔ ls[i]? = some (some v) := by
  unfold zkl
  rw [List.mem_filterMap]
  constructor
  · rintro ⟨j, -, h⟩
    split at h
    · rename_i w hw
      cases h
      exact hw
    · cases h
  · intro h
    refine ⟨i, List.mem_range.mpr (List.getElem?_eq_some_iff.mp h).1, ?_⟩
    rw [h]
theorem zkl_mem {ls : List (Option Value)} : ∀ q ∈ zkl ls, ls[q.1]? = some (some q.2) := fun q hq => zkl_iff.mp hq
theorem zL.p1 {r : Array Slot} {nL : Nat} {ls : List (Option Value)} {i : Nat} {v : Value} (h : lv_has r nL ((i, v) :: (zkl ls).filter (fun q => !(q.1 == i) && !(q.1 + 1 == i && q.2.category == 2)))) (hc : v.category = 1) : zL r nL (zput1 ls i v) := by
  refine ⟨h.1, h.2.1, fun k w hw => h.2.2 (k, w) ?_⟩
  unfold zput1 at hw
  by_cases e : k = i
  · subst e
    rw [List.getElem?_set] at hw
    simp only [if_true] at hw
    split at hw
    · cases hw; exact List.mem_cons_self
    · cases hw
  · rw [List.getElem?_set_ne (Ne.symm e)] at hw
    obtain ⟨h1, h2⟩ := zclr_get hw
    refine List.mem_cons_of_mem _ (List.mem_filter.mpr ⟨zkl_iff.mpr h1, ?_⟩)
    by_cases e2 : k + 1 = i
    · have := h2 e2
      simp [e, this]
    · simp [e, e2]
theorem zL.p2 {r : Array Slot} {nL : Nat} {ls : List (Option Value)} {i : Nat} {v : Value} (h : lv_has r nL ((i, v) :: (zkl ls).filter (fun q => !(q.1 == i) && (!(q.1 == i + 1) && !(q.1 + 1 == i && q.2.category == 2))))) : zL r nL (zput2 ls i v) := by
  refine ⟨h.1, h.2.1, fun k w hw => h.2.2 (k, w) ?_⟩
  unfold zput2 at hw
  by_cases e1 : k = i + 1
  · subst e1
    rw [List.getElem?_set] at hw
    simp only [if_true] at hw
    split at hw
    · cases hw
    · cases hw
  · rw [List.getElem?_set_ne (Ne.symm e1)] at hw
    by_cases e : k = i
    · subst e
      rw [List.getElem?_set] at hw
      simp only [if_true] at hw
      split at hw
      · cases hw; exact List.mem_cons_self
      · cases hw
    · rw [List.getElem?_set_ne (Ne.symm e)] at hw
      obtain ⟨h1, h2⟩ := zclr_get hw
      refine List.mem_cons_of_mem _ (List.mem_filter.mpr ⟨zkl_iff.mpr h1, ?_⟩)
      by_cases e2 : k + 1 = i
      · have := h2 e2
        simp [e, e1, this]
      · simp [e, e1, e2]
theorem zone {D : va_G} {cl : List vw_C} {q : Nat × va_E} {H : Heap} (h : va_at D cl q H) : va_P D cl [q] H := by
  intro k x hx
  cases k with
  | zero => cases hx; exact h
  | succ k => simp at hx
theorem zM.K {X : zX} {M : zMd} {p : Program} {s : State} {m : MethodId} {args : Array Value} {meth : Method} {c : Code} (h : zM X M p s m args meth c) : va_K (zD X) zcl (ztys X) s := h.2.2.2.2.2.2.2.1.1
theorem zM.N {X : zX} {M : zMd} {p : Program} {s : State} {m : MethodId} {args : Array Value} {meth : Method} {c : Code} (h : zM X M p s m args meth c) : zNest s := h.2.2.2.2.2.2.2.1.2.1
theorem zM.own {X : zX} {M : zMd} {p : Program} {s : State} {m : MethodId} {args : Array Value} {meth : Method} {c : Code} (h : zM X M p s m args meth c) : s.vm.findClass M.1 = some m.cls := h.2.2.2.2.2.1
theorem zM.ws {X : zX} {M : zMd} {p : Program} {s : State} {m : MethodId} {args : Array Value} {meth : Method} {c : Code} (h : zM X M p s m args meth c) : ∀ w ∈ zBig, w.before args s = true := h.2.2.2.2.2.2.1
theorem zM.S {X : zX} {M : zMd} {p : Program} {s : State} {m : MethodId} {args : Array Value} {meth : Method} {c : Code} (h : zM X M p s m args meth c) : zS0 X s s.heap := h.2.2.2.2.2.2.2.1
theorem zM.locks {X : zX} {M : zMd} {p : Program} {s : State} {m : MethodId} {args : Array Value} {meth : Method} {c : Code} (h : zM X M p s m args meth c) : meth.locks = false := h.2.2.2.2.1
theorem zM.ret {X : zX} {M : zMd} {p : Program} {s : State} {m : MethodId} {args : Array Value} {meth : Method} {c : Code} (h : zM X M p s m args meth c) : meth.sig.returnType = M.2.2.2.1 := h.2.2.2.1
/-- less is known, less is asked -/
theorem zW.mono {X : zX} {M : zMd} {d bc bs : Nat} {Q Q' : zO → zS → Prop} {pc : Nat} {ls : List (Option Value)} {st : List Value} {σ : zS} (h : zW X M d bc bs Q pc ls st σ) (hq : ∀ o σ', Q o σ' → Q' o σ') : zW X M d bc bs Q' pc ls st σ := by
  intro p e s m args below meth c R H locs cells slots r hM hR hc hs hS hP hL T hT X9
  obtain ⟨t, a1, o, b1, b2, b3⟩ := h p e s m args below meth c R H locs cells slots r hM hR hc hs hS hP hL T hT X9
  refine ⟨t, a1, o, b1, b2, ?_⟩
  rcases b3 with ⟨⟨v, σ', c1, c2, c3⟩, b4⟩ | ⟨q, e1, E, ce, L, ⟨σ', c2, c3⟩, b5⟩
  · exact Or.inl ⟨⟨v, σ', c1, hq _ _ c2, c3⟩, b4⟩
  · exact Or.inr ⟨q, e1, E, ce, L, ⟨σ', hq _ _ c2, c3⟩, b5⟩
theorem zW.less {X : zX} {M : zMd} {d bc bs : Nat} {Q : zO → zS → Prop} {pc : Nat} {ls ls' : List (Option Value)} {st : List Value} {σ : zS} (h : zW X M d bc bs Q pc ls' st σ) (hl : ∀ (i : Nat) (v : Value), ls'[i]? = some (some v) → ls[i]? = some (some v)) : zW X M d bc bs Q pc ls st σ := by
  intro p e s m args below meth c R H locs cells slots r hM hR hc hs hS hP hL
  exact h p e s m args below meth c R H locs cells slots r hM hR hc hs hS hP ⟨hL.1, hL.2.1, fun i v hv => hL.2.2 i v (hl i v hv)⟩
theorem zW.budget {X : zX} {M : zMd} {d bc bs bc' bs' : Nat} {Q : zO → zS → Prop} {pc : Nat} {ls : List (Option Value)} {st : List Value} {σ : zS} (h : zW X M d bc bs Q pc ls st σ) (h1 : bc ≤ bc') (h2 : bs ≤ bs') : zW X M d bc' bs' Q pc ls st σ := by
  intro p e s m args below meth c R H locs cells slots r hM hR hc hs hS hP hL
  exact h p e s m args below meth c R H locs cells slots r hM hR (by omega) (by omega) hS hP hL
theorem zW.freeze {X : zX} {M : zMd} {d bc bs : Nat} {Q : zO → zS → Prop} {pc : Nat} {ls : List (Option Value)} {st : List Value} {σ : zS} (h : zW X M d bc bs Q pc ls st (σ.1, none)) : zW X M d bc bs Q pc ls st σ := by
  intro p e s m args below meth c R H locs cells slots r hM hR hc hs hS hP hL
  exact h p e s m args below meth c R H locs cells slots r hM hR hc hs hS hP.none hL
/-! fields -/
def zFld (own : String) (idx ci k : Nat) : Prop := ∃ (C : String) (T : u_T) (N : Nat), zcl[ci]? = some (C, T, N) ∧ k < N ∧ (∀ w ∈ u_ws C T N, w ∈ zBig) ∧ (Cond.fieldLink own idx (T k).1 (T k).2.1 (T k).2.2.1 ∈ zBig ∨ (own, idx, (T k).1, (T k).2.1, (T k).2.2.1) ∈ zFN)
def zPut (own : String) (idx ci k : Nat) (ty : FieldType) (fin : Bool) : Prop := ∃ (C : String) (T : u_T) (N : Nat) (ty0 : Nat → FieldType), zcl[ci]? = some (C, T, N) ∧ k < N ∧ (∀ w ∈ u_ws C T N, w ∈ zBig) ∧ (Cond.fieldLink own idx (T k).1 (T k).2.1 (T k).2.2.1 ∈ zBig ∨ (own, idx, (T k).1, (T k).2.1, (T k).2.2.1) ∈ zFN) ∧ (∀ k, k < N → parseFieldDescriptor (T k).2.2.1 = some (ty0 k)) ∧ (∀ a, a < N → ∀ b, b < N → a ≠ b → (T a).2.1 ≠ (T b).2.1) ∧ (T k).2.2.2 = fin ∧ parseFieldDescriptor (T k).2.2.1 = some ty ∧ (fin = true → (T k).1 = own ∧ Cond.fieldLink own idx (T k).1 (T k).2.1 (T k).2.2.1 ∈ zBig)
section ZF
variable {X : zX} {M : zMd} {d bc bs : Nat} {Q : zO → zS → Prop} {pc : Nat} {ls : List (Option Value)} {st : List Value} {σ : zS}
theorem zr_getfield {a idx ci k : Nat} {fs : List Value} {v : Value} (hd : decode M.2.1 pc = .ok (.getfield idx, 3)) (hf : zFld M.1 idx ci k) (hσ : σ.1 a = .inr (ci, fs)) (hv : fs[k]? = some v) (hn : ci ≠ 99) (kk : zW X M d bc bs Q (pc + 3) ls (v :: st) σ) : zW X M d bc bs Q pc ls (.ref a :: st) σ := by
  intro p e s m args below meth c R H locs cells slots r hM hR hc hs hS hP hL
  have h1 := (hP.at hσ (by simp [zN, hn])).2
  obtain ⟨C, T, N, hcl, hk, hin, hl | hl⟩ := hf
  · exact va_get (ws := [(a, zc X (.inr (ci, fs)))]) hM.1 hM.2.1 hM.ws hin hM.own hM.K (zone h1) 0 rfl hcl k hk (hM.ws _ hl) (fun _ h => h) hv hd (kk p e s m args below meth c R H locs cells slots r hM hR hc hs hS hP hL)
  · exact va_getN (ws := [(a, zc X (.inr (ci, fs)))]) hM.1 hM.2.1 hM.ws hin hM.own hM.K (zone h1) 0 rfl hcl k hk ((hM.N.1 _ hl).use rfl) (fun _ h => h) hv hd (kk p e s m args below meth c R H locs cells slots r hM hR hc hs hS hP hL)
theorem zr_putfield {a idx ci k : Nat} {fs fs' : List Value} {v : Value} {ty : FieldType} (hd : decode M.2.1 pc = .ok (.putfield idx, 3)) (hf : zPut M.1 idx ci k ty false) (hσ : σ.1 a = .inr (ci, fs)) (hn : ci ≠ 99) (hnv : narrow ty v = v) (hfit : fits ty v = true) (hl : k < fs.length) (he : fs.set k v = fs') (kk : zW X M d bc bs Q (pc + 3) ls st (zup σ a (.inr (ci, fs')))) : zW X M d bc bs Q pc ls (v :: .ref a :: st) σ := by
  intro p e s m args below meth c R H locs cells slots r hM hR hc hs hS hP hL
  subst he
  obtain ⟨hB, h1⟩ := hP.at hσ (by simp [zN, hn])
  obtain ⟨C, T, N, ty0, hcl, hk, hin, hlk, hty, hnm, hfin, hpd, -⟩ := hf
  have hap := va_apart (own := M.1) hM.ws hin ty0 hty hnm hM.K hcl
  obtain ⟨r0, h2, cell, q1, q2, q3, q4⟩ := h1
  have hr : r0 = (C, T, N) := Option.some.inj (h2.symm.trans hcl)
  subst hr
  obtain ⟨hSl, hfc, kC, hkC, hkind⟩ := hM.K.1 ci _ hcl
  obtain ⟨cf, kf, fi, f, hi, hsl⟩ := hSl k hk
  have hlay := hM.ws _ (hin _ (u_in_lay hk))
  unfold u_lay at hlay
  rw [if_neg (by rw [hfin]; decide)] at hlay
  have hst := (u_facts hfc hkC (u_lays hM.ws hin hk) hi).1
  have h6 := u_store hfc hkC hkind hlay hi hpd hnv hfit
  have fin2 : ∀ (H' : Heap), H'[a]? = some (cell.setSlot f.slot v) → H'.size = H.size → (∀ q, q ≠ a → H'[q]? = H[q]?) → W p X.1 e R s m args below meth c H' (locs ++ [⟨a, f.slot⟩]) cells slots (vx_MQ below (zQc X Q) (zXC X Q) args s R.cells R.slots (zA X)) (F0 m (pc + 3) r st) := by
    intro H' e1 e2 e3
    rw [hsl] at e1
    refine kk p e s m args below meth c R H' _ cells slots r hM hR hc hs (hS.put e2 e3 hB) (hP.put hB e2 ⟨_, hcl, t_OB.to (V := updV (vp_V fs) k v) ⟨_, e1, q2, q3, t_set q4 hap hk v⟩ (fun j _ => vp_updV_set hl v j)⟩ e3) hL
  rcases hlk with hlk | hlk
  · exact W.putK hM.1 hM.2.1 (f := f) ⟨hM.own, hM.ws _ hlk, ⟨_, _, _, hi⟩, hst⟩ (by rw [q2]; exact h6) q1 q3 (by rw [hsl]; exact k2_hasslot (q4 k hk)) rfl rfl hd fin2
  · refine va_WputK hM.1 hM.2.1 (f := f) hM.own ((hM.N.1 _ hlk).use rfl) hi hst (by rw [q2]; exact h6) q1 q3 (by rw [hsl]; exact k2_hasslot (q4 k hk)) rfl rfl hd fin2
end ZF
section ZG
variable {X : zX} {M : zMd} {d bc bs : Nat} {Q : zO → zS → Prop} {pc : Nat} {ls : List (Option Value)} {st : List Value} {σ : zS}
theorem zr_putfinal {a idx ci k : Nat} {fs fs' : List Value} {v : Value} {ty : FieldType} (hd : decode M.2.1 pc = .ok (.putfield idx, 3)) (hini : M.2.2.2.2.1 = true) (hf : zPut M.1 idx ci k ty true) (hσ : σ.1 a = .inr (ci, fs)) (hn : ci ≠ 99) (hnv : narrow ty v = v) (hfit : fits ty v = true) (hl : k < fs.length) (he : fs.set k v = fs') (kk : zW X M d bc bs Q (pc + 3) ls st (zup σ a (.inr (ci, fs')))) : zW X M d bc bs Q pc ls (v :: .ref a :: st) σ := by
  intro p e s m args below meth c R H locs cells slots r hM hR hc hs hS hP hL
  subst he
  obtain ⟨hB, h1⟩ := hP.at hσ (by simp [zN, hn])
  obtain ⟨C, T, N, ty0, hcl, hk, hin, -, hty, hnm, hfin, hpd, hfi⟩ := hf
  obtain ⟨hdecl, hlk⟩ := hfi rfl
  have hap := va_apart (own := M.1) hM.ws hin ty0 hty hnm hM.K hcl
  obtain ⟨r0, h2, cell, q1, q2, q3, q4⟩ := h1
  have hr : r0 = (C, T, N) := Option.some.inj (h2.symm.trans hcl)
  subst hr
  obtain ⟨hSl, hfc, kC, hkC, hkind⟩ := hM.K.1 ci _ hcl
  obtain ⟨cf, kf, fi, f, hi, hsl⟩ := hSl k hk
  have hlay := hM.ws _ (hin _ (u_in_lay hk))
  unfold u_lay at hlay
  rw [if_pos hfin] at hlay
  have hst := (u_facts hfc hkC (u_lays hM.ws hin hk) hi).1
  have hcf : m.cls = cf := by
    obtain ⟨_, _, c', _, _, _, -, -, hf', -, -, -, hown2, -⟩ := Cond.laysFinal_spec hlay
    have e1 : c' = cf := by have := hi.symm.trans hf'; simp at this; exact this.1.symm
    rw [hdecl] at hown2
    rw [← e1]; exact Option.some.inj (hM.own.symm.trans hown2)
  have h6 := u_fits hfc hkC hkind (Or.inr hlay) hi hpd hnv hfit
  refine W.putFinK hM.1 hM.2.1 hM.own (hM.ws _ hlk) hi hst hcf (hM.2.2.2.2.2.2.2.2.1 hini) (by rw [q2]; exact h6) q1 q3 (by rw [hsl]; exact k2_hasslot (q4 k hk)) rfl rfl hd fun H' e1 e2 e3 => ?_
  rw [hsl] at e1 ⊢
  exact kk p e s m args below meth c R H' _ cells slots r hM hR hc hs (hS.put e2 e3 hB) (hP.put hB e2 ⟨_, hcl, t_OB.to (V := updV (vp_V fs) k v) ⟨_, e1, q2, q3, t_set q4 hap hk v⟩ (fun j _ => vp_updV_set hl v j)⟩ e3) hL
/-! what is made -/
def zNew (own : String) (idx ci : Nat) (fs : List Value) (N : Nat) : Prop := ∃ (C : String) (T : u_T) (ty0 : Nat → FieldType), zcl[ci]? = some (C, T, N) ∧ (∀ w ∈ u_ws C T N, w ∈ zBig) ∧ Cond.classLink own idx C ∈ zBig ∧ Cond.instantiable C N ∈ zBig ∧ Cond.initialized C ∈ zBig ∧ (∀ k, k < N → parseFieldDescriptor (T k).2.2.1 = some (ty0 k)) ∧ ∀ j, j < N → defaultValue (ty0 j) = vp_V fs j
theorem zr_new {idx ci N h : Nat} {fs : List Value} (hd : decode M.2.1 pc = .ok (.new idx, 3)) (hf : zNew M.1 idx ci fs N) (hh : σ.2 = some h) (h1 : 1 ≤ bc) (h2 : N ≤ bs) (kk : zW X M d (bc - 1) (bs - N) Q (pc + 3) ls (.ref h :: st) (zup (σ.1, some (h + 1)) h (.inr (ci, fs)))) : zW X M d bc bs Q pc ls st σ := by
  intro p e s m args below meth c R H locs cells slots r hM hR hc hs hS hP hL
  obtain ⟨C, T, ty0, hcl, hin, w1, w2, w3, hty, hfs⟩ := hf
  have hsz := hP.2.2.2 h hh
  have hKn := hM.K.1 ci _ hcl
  refine W.newcK hM.1 hM.2.1 hM.own (hM.ws _ w1) (hM.ws _ w2) (hM.ws _ w3) rfl hd (by omega) (by omega) hKn.2.1 hsz fun H1 kC hkC e1 z1 o1 => ?_
  have hS1 : va_S (zA X) s.heap H1 locs := ⟨Nat.le_trans hS.1 (by omega), fun x g1 g2 => (o1 x (by have := hS.1; omega)).trans (hS.2.1 x g1 g2), hS.2.2⟩
  exact kk p e s m args below meth c R H1 locs (cells + 1) (slots + N) r hM hR (by omega) (by omega) hS1 (hP.new hsz z1 ⟨_, hcl, (u_born ty0 hM.ws hin hKn hkC e1 hty).to hfs⟩ o1) hL
theorem zr_newarray {at' : ArrayType} {t N h : Nat} {n : Int32} {ty : FieldType} {x : vp_A} (hd : decode M.2.1 pc = .ok (.newarray at', 2)) (ha : Cond.arrayClass (newarray.typeOf at') ∈ zBig) (hty : newarray.typeOf at' = ty) (ht : (ztys X)[t]? = some (zT X t, ty)) (hobj : ∀ C, ty ≠ .object C) (hx : ∀ cA : ClassId, vp_cell cA x = arrV cA N (fun _ => defaultValue ty)) (hn : ¬ n < 0) (hN : n.toNatClampNeg = N) (hbytes : N * componentBytes ty ≤ 536870912) (hh : σ.2 = some h) (h1 : 1 ≤ bc) (h2 : N ≤ bs) (kk : zW X M d (bc - 1) (bs - N) Q (pc + 2) ls (.ref h :: st) (zup (σ.1, some (h + 1)) h (.inl (t, x)))) : zW X M d bc bs Q pc ls (.int n :: st) σ := by
  intro p e s m args below meth c R H locs cells slots r hM hR hc hs hS hP hL
  have hsz := hP.2.2.2 h hh
  subst hty
  refine va_newaK hM.1 hM.2.1 (hM.ws _ ha) rfl hd rfl hn hN hbytes (by omega) (by omega) hsz fun H1 cA e1 z1 o1 f1 f2 => ?_
  have hcA : cA = zT X t := by
    have h3 := (hM.K.2 t _ ht).2
    unfold va_RA at h3
    split at h3
    · rename_i C hC
      exact absurd hC (hobj C)
    · exact Option.some.inj (f2.symm.trans h3)
  subst hcA
  have hS1 : va_S (zA X) s.heap H1 locs := ⟨Nat.le_trans hS.1 (by omega), fun x g1 g2 => (o1 x (by have := hS.1; omega)).trans (hS.2.1 x g1 g2), hS.2.2⟩
  exact kk p e s m args below meth c R H1 locs (cells + 1) (slots + N) r hM hR (by omega) (by omega) hS1 (hP.new hsz z1 (show H1[h]? = some (vp_cell (zT X t) x) by rw [hx]; exact e1) o1) hL
theorem zr_anewarray {idx t N h : Nat} {C : String} {n : Int32} (hd : decode M.2.1 pc = .ok (.anewarray idx, 3)) (ha : Cond.classLink M.1 idx C ∈ zBig) (hao : C ∈ zAO) (ht : (ztys X)[t]? = some (zT X t, .object C)) (hn : ¬ n < 0) (hN : n.toNatClampNeg = N) (hbytes : N * 4 ≤ 536870912) (hh : σ.2 = some h) (h1 : 1 ≤ bc) (h2 : N ≤ bs) (kk : zW X M d (bc - 1) (bs - N) Q (pc + 3) ls (.ref h :: st) (zup (σ.1, some (h + 1)) h (.inl (t, N, .inr (.inr (.inr (.inr (fun _ => none)))))))) : zW X M d bc bs Q pc ls (.int n :: st) σ := by
  intro p e s m args below meth c R H locs cells slots r hM hR hc hs hS hP hL
  have hsz := hP.2.2.2 h hh
  subst hN
  refine W.anew hM.1 hM.2.1 hM.own (hM.ws _ ha) (hM.N.2.2.2.2.1 _ hao).use rfl hd rfl hn hbytes (by omega) (by omega) fun cA kA comp f1 f2 f3 f4 => ?_
  have hcA : cA = zT X t := by
    obtain ⟨-, -, -, -, -, h3⟩ := (hM.K.2 t _ ht).2
    exact Option.some.inj (f1.symm.trans h3)
  subst hcA
  generalize hH1 : H.push ({ cls := zT X t, slots := Array.replicate n.toNatClampNeg .null, vm := .none } : Cell) = H1
  have z1 : H1.size = H.size + 1 := by rw [← hH1, Array.size_push]
  have e1 : H1[H.size]? = some (arrV (zT X t) n.toNatClampNeg (fun _ => .null)) := by rw [← hH1, Array.getElem?_push_size, ← arrV_new]
  have o1 : ∀ q : Nat, q < H.size → H1[q]? = H[q]? := fun q hq => by rw [← hH1, Array.getElem?_push, if_neg (Nat.ne_of_lt hq)]
  have hS1 : va_S (zA X) s.heap H1 locs := ⟨Nat.le_trans hS.1 (by omega), fun x g1 g2 => (o1 x (by have := hS.1; omega)).trans (hS.2.1 x g1 g2), hS.2.2⟩
  rw [hsz] at z1 e1 o1 ⊢
  exact kk p e s m args below meth c R H1 locs (cells + 1) (slots + n.toNatClampNeg) r hM hR (by omega) (by omega) hS1 (hP.new hsz z1 e1 o1) hL
def zObj (own : String) (idx : Nat) : Prop := Cond.methodLink own idx objectInit ∈ zBig ∧ Cond.instanceMethod objectInit ∈ zBig ∧ Cond.code objectInit ⟨#[0xb1]⟩ 1 none ∈ zBig
theorem zr_objInit {idx a : Nat} (hd : decode M.2.1 pc = .ok (.invokespecial idx, 3)) (hf : zObj M.1 idx) (h1 : 1 ≤ d) (hst : (st.map fun v => v.category).sum ≤ 8) (kk : zW X M d bc bs Q (pc + 3) ls st σ) : zW X M d bc bs Q pc ls (.ref a :: st) σ := by
  intro p e s m args below meth c R H locs cells slots r hM hR hc hs hS hP hL
  obtain ⟨w1, w2, w3⟩ := hf
  refine W.objInit hM.1 hM.2.1 hM.own (hM.ws _ w1) (hM.ws _ w2) (hM.ws _ w3) rfl (by rw [hM.2.2.1]; exact hL.1) rfl hd (by have := hR.1; omega) (by have := hR.2; show 2 * 0 + _ + 12 ≤ _; omega) (kk p e s m args below meth c R H locs cells slots r hM hR hc hs hS hP hL)
/-! the ends -/
theorem zend {v : Option Value} {g : JFrame} {p : Program} {e : Env} {s : State} {m : MethodId} {args : Array Value} {below : List Frame} {meth : Method} {c : Code} {R : Room} {H : Heap} {locs : List Loc} {cells slots : Nat} (hc : cells + bc ≤ R.cells) (hs : slots + bs ≤ R.slots)
    (k : W p X.1 e R s m args below meth c H locs R.cells R.slots (MQ below (zQc X Q) args s R.cells R.slots (zA X)) g) : W p X.1 e R s m args below meth c H locs cells slots (vx_MQ below (zQc X Q) (zXC X Q) args s R.cells R.slots (zA X)) g := W.widen (by omega) (by omega) (vx_ret k)
theorem zr_ireturn {v : Int32} {ty : FieldType} (hd : decode M.2.1 pc = .ok (.ireturn, 1)) (hr : M.2.2.2.1 = some ty) (hn : narrow ty (.int v) = .int v) (hq : Q (.inl (some (.int v))) σ) : zW X M d bc bs Q pc ls [.int v] σ := by
  intro p e s m args below meth c R H locs cells slots r hM hR hc hs hS hP hL
  have hlocks := hM.locks
  exact zend (v := none) hc hs (W.zret hM.1 hM.2.1 (hM.ret.trans hr) hn (fun t ht hW => ⟨_, σ, rfl, hq, by rw [ht]; exact hP, hS.F ht⟩) hS.2.2 hd hlocks)
theorem zr_lreturn {v : Int64} (hd : decode M.2.1 pc = .ok (.lreturn, 1)) (hr : M.2.2.2.1 = some .long) (hq : Q (.inl (some (.long v))) σ) : zW X M d bc bs Q pc ls [.long v] σ := by
  intro p e s m args below meth c R H locs cells slots r hM hR hc hs hS hP hL
  have hlocks := hM.locks
  exact zend (v := none) hc hs (W.lret hM.1 hM.2.1 (hM.ret.trans hr) (fun t ht hW => ⟨_, σ, rfl, hq, by rw [ht]; exact hP, hS.F ht⟩) hS.2.2 hd hlocks)
theorem zr_freturn {v : UInt32} (hd : decode M.2.1 pc = .ok (.freturn, 1)) (hr : M.2.2.2.1 = some .float) (hq : Q (.inl (some (.float v))) σ) : zW X M d bc bs Q pc ls [.float v] σ := by
  intro p e s m args below meth c R H locs cells slots r hM hR hc hs hS hP hL
  have hlocks := hM.locks
  exact zend (v := none) hc hs (W.fret hM.1 hM.2.1 (hM.ret.trans hr) (fun t ht hW => ⟨_, σ, rfl, hq, by rw [ht]; exact hP, hS.F ht⟩) hS.2.2 hd hlocks)
theorem zr_dreturn {v : UInt64} (hd : decode M.2.1 pc = .ok (.dreturn, 1)) (hr : M.2.2.2.1 = some .double) (hq : Q (.inl (some (.double v))) σ) : zW X M d bc bs Q pc ls [.double v] σ := by
  intro p e s m args below meth c R H locs cells slots r hM hR hc hs hS hP hL
  have hlocks := hM.locks
  exact zend (v := none) hc hs (W.dret hM.1 hM.2.1 (hM.ret.trans hr) (fun t ht hW => ⟨_, σ, rfl, hq, by rw [ht]; exact hP, hS.F ht⟩) hS.2.2 hd hlocks)
theorem zr_return (hd : decode M.2.1 pc = .ok (.return_, 1)) (hr : M.2.2.2.1 = none) (hq : Q (.inl none) σ) : zW X M d bc bs Q pc ls [] σ := by
  intro p e s m args below meth c R H locs cells slots r hM hR hc hs hS hP hL
  have hlocks := hM.locks
  exact zend (v := none) hc hs (W.vret hM.1 hM.2.1 (hM.ret.trans hr) (fun t ht hW => ⟨_, σ, rfl, hq, by rw [ht]; exact hP, hS.F ht⟩) hS.2.2 hd hlocks)
end ZG
