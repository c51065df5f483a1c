/-! the law's wrappers: what they answer -/
theorem zHas0 {own : String} {a b c k pc : Nat} {tail : List (Nat × Nat × Nat × Nat)} {E : String} (hl : Cond.classLink own k E ∈ zBig) (hc : (E, E) ∈ zCA) (h : covers ⟨a, b, c, k⟩ pc = true) (hk : k ≠ 0) : zHas own ((a, b, c, k) :: tail) pc E c := ⟨[], ⟨a, b, c, k⟩, tableOf tail, E, rfl, (fun z hz => by cases hz), h, hk, hl, hc, rfl⟩
theorem zHasS {own : String} {a b c c2 k pc : Nat} {tail : List (Nat × Nat × Nat × Nat)} {E nm : String} (hl : Cond.classLink own k nm ∈ zBig) (hn : (E, nm) ∈ zNC) (hk : k ≠ 0) (h : zHas own tail pc E c2) : zHas own ((a, b, c, k) :: tail) pc E c2 := by
  obtain ⟨pre, x, suf, name, t1, t2, t3⟩ := h
  refine ⟨⟨a, b, c, k⟩ :: pre, x, suf, name, congrArg (List.cons _) t1, fun z hz => ?_, t3⟩
  rcases List.mem_cons.mp hz with q | q
  · subst q; exact Or.inr ⟨hk, nm, hl, hn⟩
  · exact t2 z q
theorem zr_less {X : zX} {M : zMd} {d bc bs bc' bs' : Nat} {Q : zO → zS → Prop} {pc : Nat} {ls : List (Option Value)} {st : List Value} {σ : zS} (e1 : bc' ≤ bc) (e2 : bs' ≤ bs) (kk : zW X M d bc' bs' Q pc ls st σ) : zW X M d bc bs Q pc ls st σ := by
  intro p e s m args below meth c R H locs cells slots r hM hR hc hs hS hP hL
  exact kk p e s m args below meth c R H locs cells slots r hM hR (by omega) (by omega) hS hP hL
set_option maxHeartbeats 400000 in
set_option maxRecDepth 100000 in
theorem wOK_openCase {X : zX} (hX : X.1.stackTraces = false) {σ : zS} {x o d mc ms : Nat} {fs : List Value} {Qs : zS → Prop} {v : Int32} {f : Nat → Int64} (hm : zMet X mX9_openCase yX9_openCase d mc ms [.ref x] σ (zI (fun r s => r = v ∧ Qs s))) (hx : σ.1 x = .inr (7, fs)) (ho : ∀ σ2, Qs σ2 → σ2.1 o = .inl (3, 1, .inr (.inl f))) : zMetH X mL_openCase yL_openCase (d + 1) mc ms [.ref x, .ref o] σ (zI (fun r t => r = 0 ∧ ∃ s, Qs s ∧ t = zup s o (.inl (3, 1, .inr (.inl (vp_updL f 0 v.toInt64)))))) := by
  refine zMetH_of (ls := [some (.ref x), some (.ref o), none]) (by decide +kernel) rfl rfl hX (Nat.le_of_ble_eq_true rfl) rfl ?_
  refine zr_aload_n dL_openCase_0 rfl ?_
  refine zr_iconst (v := 0) dL_openCase_1 (by decide) ?_
  refine zr_aload_n dL_openCase_2 rfl ?_
  refine zr_callVc (rest := [.int 0, .ref o]) dL_openCase_3 vL_7 hm (Nat.le_refl _) (Nat.le_refl _) (Nat.le_refl _) rfl rfl (Nat.le_of_ble_eq_true rfl) hx (by decide) (fun v2 s1 h_ => ?_) (fun E s1 h_ => ?_)
  · obtain ⟨r, e, e2, hQ⟩ := h_
    cases e
    rw [e2]
    have ko := ho s1 hQ
    refine zr_i2l dL_openCase_6 ?_
    refine zr_lastore dL_openCase_7 ko (vp_in_nI (n := 0) (by omega) (by omega)) ?_
    rw [show (0 : Int32).toNatClampNeg = 0 from by decide]
    refine zr_sig (fun ks1 e_ks1 => ?_)
    have kh2 : ks1.1 o = .inl (3, 1, .inr (.inl (vp_updL f 0 ((v).toInt64)))) := by rw [e_ks1]; exact zup_at _ _ _
    refine zr_goto (tgt := 14) dL_openCase_8 (by decide) ?_
    refine zr_iconst (v := 0) dL_openCase_14 (by decide) ?_
    exact zr_ireturn dL_openCase_15 rfl (rfl) (⟨_, rfl, rfl, s1, hQ, by rw [e_ks1]⟩)
  · obtain ⟨r, e, -⟩ := h_
    cases e

set_option maxHeartbeats 400000 in
set_option maxRecDepth 100000 in
theorem wN1_openCase {X : zX} (hX : X.1.stackTraces = false) {σ : zS} {x o d mc ms : Nat} {fs : List Value} {Qs : zS → Prop} (hm : zMet X mX9_openCase yX9_openCase d mc ms [.ref x] σ (fun o_ s => o_ = .inr "java/lang/UnsupportedOperationException" ∧ Qs s)) (hx : σ.1 x = .inr (7, fs)) : zMetH X mL_openCase yL_openCase (d + 1) mc ms [.ref x, .ref o] σ (zI (fun r t => r = 1 ∧ Qs t)) := by
  refine zMetH_of (ls := [some (.ref x), some (.ref o), none]) (by decide +kernel) rfl rfl hX (Nat.le_of_ble_eq_true rfl) rfl ?_
  refine zr_aload_n dL_openCase_0 rfl ?_
  refine zr_iconst (v := 0) dL_openCase_1 (by decide) ?_
  refine zr_aload_n dL_openCase_2 rfl ?_
  refine zr_callVc (rest := [.int 0, .ref o]) dL_openCase_3 vL_7 hm (Nat.le_refl _) (Nat.le_refl _) (Nat.le_refl _) rfl rfl (Nat.le_of_ble_eq_true rfl) hx (by decide) (fun v2 s1 h_ => ?_) (fun E s1 h_ => ?_)
  · obtain ⟨e, -⟩ := h_
    cases e
  · obtain ⟨e, hQ⟩ := h_
    cases e
    refine ⟨11, zHas0 lL_13 (by decide +kernel) rfl (by decide), fun q => ?_⟩
    refine zr_astore_n (ls' := [some (.ref x), some (.ref o), some (.ref q)]) dL_openCase_11 rfl (by decide) rfl ?_
    refine zr_iconst (v := 1) dL_openCase_12 (by decide) ?_
    exact zr_ireturn dL_openCase_13 rfl (rfl) (⟨_, rfl, rfl, hQ⟩)

set_option maxHeartbeats 400000 in
set_option maxRecDepth 100000 in
theorem wOK_cross {X : zX} (hX : X.1.stackTraces = false) {σ : zS} {x o d mc ms : Nat} {p1 p2 : Int32} {fs : List Value} {Qs : zS → Prop} {v : Int32} {f : Nat → Int64} (hm : zMet X mX9_cross yX9_cross d mc ms [.ref x, .int p1, .int p2] σ (zI (fun r s => r = v ∧ Qs s))) (hx : σ.1 x = .inr (7, fs)) (ho : ∀ σ2, Qs σ2 → σ2.1 o = .inl (3, 1, .inr (.inl f))) : zMetH X mL_cross yL_cross (d + 1) mc ms [.ref x, .int p1, .int p2, .ref o] σ (zI (fun r t => r = 0 ∧ ∃ s, Qs s ∧ t = zup s o (.inl (3, 1, .inr (.inl (vp_updL f 0 v.toInt64)))))) := by
  refine zMetH_of (ls := [some (.ref x), some (.int p1), some (.int p2), some (.ref o), none]) (by decide +kernel) rfl rfl hX (Nat.le_of_ble_eq_true rfl) rfl ?_
  refine zr_aload_n dL_cross_0 rfl ?_
  refine zr_iconst (v := 0) dL_cross_1 (by decide) ?_
  refine zr_aload_n dL_cross_2 rfl ?_
  refine zr_iload_n dL_cross_3 rfl ?_
  refine zr_iload_n dL_cross_4 rfl ?_
  refine zr_callVc (rest := [.int 0, .ref o]) dL_cross_5 vL_15 hm (Nat.le_refl _) (Nat.le_refl _) (Nat.le_refl _) rfl rfl (Nat.le_of_ble_eq_true rfl) hx (by decide) (fun v2 s1 h_ => ?_) (fun E s1 h_ => ?_)
  · obtain ⟨r, e, e2, hQ⟩ := h_
    cases e
    rw [e2]
    have ko := ho s1 hQ
    refine zr_i2l dL_cross_8 ?_
    refine zr_lastore dL_cross_9 ko (vp_in_nI (n := 0) (by omega) (by omega)) ?_
    rw [show (0 : Int32).toNatClampNeg = 0 from by decide]
    refine zr_sig (fun ks1 e_ks1 => ?_)
    have kh2 : ks1.1 o = .inl (3, 1, .inr (.inl (vp_updL f 0 ((v).toInt64)))) := by rw [e_ks1]; exact zup_at _ _ _
    refine zr_goto (tgt := 25) dL_cross_10 (by decide) ?_
    refine zr_iconst (v := 0) dL_cross_25 (by decide) ?_
    exact zr_ireturn dL_cross_26 rfl (rfl) (⟨_, rfl, rfl, s1, hQ, by rw [e_ks1]⟩)
  · obtain ⟨r, e, -⟩ := h_
    cases e

set_option maxHeartbeats 400000 in
set_option maxRecDepth 100000 in
theorem wN1_cross {X : zX} (hX : X.1.stackTraces = false) {σ : zS} {x o d mc ms : Nat} {p1 p2 : Int32} {fs : List Value} {Qs : zS → Prop} (hm : zMet X mX9_cross yX9_cross d mc ms [.ref x, .int p1, .int p2] σ (fun o_ s => o_ = .inr "java/lang/IndexOutOfBoundsException" ∧ Qs s)) (hx : σ.1 x = .inr (7, fs)) : zMetH X mL_cross yL_cross (d + 1) mc ms [.ref x, .int p1, .int p2, .ref o] σ (zI (fun r t => r = 1 ∧ Qs t)) := by
  refine zMetH_of (ls := [some (.ref x), some (.int p1), some (.int p2), some (.ref o), none]) (by decide +kernel) rfl rfl hX (Nat.le_of_ble_eq_true rfl) rfl ?_
  refine zr_aload_n dL_cross_0 rfl ?_
  refine zr_iconst (v := 0) dL_cross_1 (by decide) ?_
  refine zr_aload_n dL_cross_2 rfl ?_
  refine zr_iload_n dL_cross_3 rfl ?_
  refine zr_iload_n dL_cross_4 rfl ?_
  refine zr_callVc (rest := [.int 0, .ref o]) dL_cross_5 vL_15 hm (Nat.le_refl _) (Nat.le_refl _) (Nat.le_refl _) rfl rfl (Nat.le_of_ble_eq_true rfl) hx (by decide) (fun v2 s1 h_ => ?_) (fun E s1 h_ => ?_)
  · obtain ⟨e, -⟩ := h_
    cases e
  · obtain ⟨e, hQ⟩ := h_
    cases e
    refine ⟨13, zHas0 lL_19 (by decide +kernel) rfl (by decide), fun q => ?_⟩
    refine zr_astore (ls' := [some (.ref x), some (.int p1), some (.int p2), some (.ref o), some (.ref q)]) dL_cross_13 (by decide) rfl ?_
    refine zr_iconst (v := 1) dL_cross_15 (by decide) ?_
    exact zr_ireturn dL_cross_16 rfl (rfl) (⟨_, rfl, rfl, hQ⟩)

set_option maxHeartbeats 400000 in
set_option maxRecDepth 100000 in
theorem wN2_cross {X : zX} (hX : X.1.stackTraces = false) {σ : zS} {x o d mc ms : Nat} {p1 p2 : Int32} {fs : List Value} {Qs : zS → Prop} (hm : zMet X mX9_cross yX9_cross d mc ms [.ref x, .int p1, .int p2] σ (fun o_ s => o_ = .inr "java/lang/IllegalArgumentException" ∧ Qs s)) (hx : σ.1 x = .inr (7, fs)) : zMetH X mL_cross yL_cross (d + 1) mc ms [.ref x, .int p1, .int p2, .ref o] σ (zI (fun r t => r = 2 ∧ Qs t)) := by
  refine zMetH_of (ls := [some (.ref x), some (.int p1), some (.int p2), some (.ref o), none]) (by decide +kernel) rfl rfl hX (Nat.le_of_ble_eq_true rfl) rfl ?_
  refine zr_aload_n dL_cross_0 rfl ?_
  refine zr_iconst (v := 0) dL_cross_1 (by decide) ?_
  refine zr_aload_n dL_cross_2 rfl ?_
  refine zr_iload_n dL_cross_3 rfl ?_
  refine zr_iload_n dL_cross_4 rfl ?_
  refine zr_callVc (rest := [.int 0, .ref o]) dL_cross_5 vL_15 hm (Nat.le_refl _) (Nat.le_refl _) (Nat.le_refl _) rfl rfl (Nat.le_of_ble_eq_true rfl) hx (by decide) (fun v2 s1 h_ => ?_) (fun E s1 h_ => ?_)
  · obtain ⟨e, -⟩ := h_
    cases e
  · obtain ⟨e, hQ⟩ := h_
    cases e
    refine ⟨17, zHasS lL_19 (by decide +kernel) (by decide) (zHas0 lL_21 (by decide +kernel) rfl (by decide)), fun q => ?_⟩
    refine zr_astore (ls' := [some (.ref x), some (.int p1), some (.int p2), some (.ref o), some (.ref q)]) dL_cross_17 (by decide) rfl ?_
    refine zr_iconst (v := 2) dL_cross_19 (by decide) ?_
    exact zr_ireturn dL_cross_20 rfl (rfl) (⟨_, rfl, rfl, hQ⟩)

set_option maxHeartbeats 400000 in
set_option maxRecDepth 100000 in
theorem wN3_cross {X : zX} (hX : X.1.stackTraces = false) {σ : zS} {x o d mc ms : Nat} {p1 p2 : Int32} {fs : List Value} {Qs : zS → Prop} (hm : zMet X mX9_cross yX9_cross d mc ms [.ref x, .int p1, .int p2] σ (fun o_ s => o_ = .inr "java/lang/UnsupportedOperationException" ∧ Qs s)) (hx : σ.1 x = .inr (7, fs)) : zMetH X mL_cross yL_cross (d + 1) mc ms [.ref x, .int p1, .int p2, .ref o] σ (zI (fun r t => r = 3 ∧ Qs t)) := by
  refine zMetH_of (ls := [some (.ref x), some (.int p1), some (.int p2), some (.ref o), none]) (by decide +kernel) rfl rfl hX (Nat.le_of_ble_eq_true rfl) rfl ?_
  refine zr_aload_n dL_cross_0 rfl ?_
  refine zr_iconst (v := 0) dL_cross_1 (by decide) ?_
  refine zr_aload_n dL_cross_2 rfl ?_
  refine zr_iload_n dL_cross_3 rfl ?_
  refine zr_iload_n dL_cross_4 rfl ?_
  refine zr_callVc (rest := [.int 0, .ref o]) dL_cross_5 vL_15 hm (Nat.le_refl _) (Nat.le_refl _) (Nat.le_refl _) rfl rfl (Nat.le_of_ble_eq_true rfl) hx (by decide) (fun v2 s1 h_ => ?_) (fun E s1 h_ => ?_)
  · obtain ⟨e, -⟩ := h_
    cases e
  · obtain ⟨e, hQ⟩ := h_
    cases e
    refine ⟨21, zHasS lL_19 (by decide +kernel) (by decide) (zHasS lL_21 (by decide +kernel) (by decide) (zHas0 lL_13 (by decide +kernel) rfl (by decide))), fun q => ?_⟩
    refine zr_astore (ls' := [some (.ref x), some (.int p1), some (.int p2), some (.ref o), some (.ref q)]) dL_cross_21 (by decide) rfl ?_
    refine zr_iconst (v := 3) dL_cross_23 (by decide) ?_
    exact zr_ireturn dL_cross_24 rfl (rfl) (⟨_, rfl, rfl, hQ⟩)

set_option maxHeartbeats 400000 in
set_option maxRecDepth 100000 in
theorem wOK_cutLast {X : zX} (hX : X.1.stackTraces = false) {σ : zS} {x o d mc ms : Nat} {p1 : Int32} {fs : List Value} {Qs : zS → Prop} {v : Int32} {f : Nat → Int64} (hm : zMet X mX9_cutLast yX9_cutLast d mc ms [.ref x, .int p1] σ (zI (fun r s => r = v ∧ Qs s))) (hx : σ.1 x = .inr (7, fs)) (ho : ∀ σ2, Qs σ2 → σ2.1 o = .inl (3, 1, .inr (.inl f))) : zMetH X mL_cutLast yL_cutLast (d + 1) mc ms [.ref x, .int p1, .ref o] σ (zI (fun r t => r = 0 ∧ ∃ s, Qs s ∧ t = zup s o (.inl (3, 1, .inr (.inl (vp_updL f 0 v.toInt64)))))) := by
  refine zMetH_of (ls := [some (.ref x), some (.int p1), some (.ref o), none]) (by decide +kernel) rfl rfl hX (Nat.le_of_ble_eq_true rfl) rfl ?_
  refine zr_aload_n dL_cutLast_0 rfl ?_
  refine zr_iconst (v := 0) dL_cutLast_1 (by decide) ?_
  refine zr_aload_n dL_cutLast_2 rfl ?_
  refine zr_iload_n dL_cutLast_3 rfl ?_
  refine zr_callVc (rest := [.int 0, .ref o]) dL_cutLast_4 vL_23 hm (Nat.le_refl _) (Nat.le_refl _) (Nat.le_refl _) rfl rfl (Nat.le_of_ble_eq_true rfl) hx (by decide) (fun v2 s1 h_ => ?_) (fun E s1 h_ => ?_)
  · obtain ⟨r, e, e2, hQ⟩ := h_
    cases e
    rw [e2]
    have ko := ho s1 hQ
    refine zr_i2l dL_cutLast_7 ?_
    refine zr_lastore dL_cutLast_8 ko (vp_in_nI (n := 0) (by omega) (by omega)) ?_
    rw [show (0 : Int32).toNatClampNeg = 0 from by decide]
    refine zr_sig (fun ks1 e_ks1 => ?_)
    have kh2 : ks1.1 o = .inl (3, 1, .inr (.inl (vp_updL f 0 ((v).toInt64)))) := by rw [e_ks1]; exact zup_at _ _ _
    refine zr_goto (tgt := 18) dL_cutLast_9 (by decide) ?_
    refine zr_iconst (v := 0) dL_cutLast_18 (by decide) ?_
    exact zr_ireturn dL_cutLast_19 rfl (rfl) (⟨_, rfl, rfl, s1, hQ, by rw [e_ks1]⟩)
  · obtain ⟨r, e, -⟩ := h_
    cases e

set_option maxHeartbeats 400000 in
set_option maxRecDepth 100000 in
theorem wN1_cutLast {X : zX} (hX : X.1.stackTraces = false) {σ : zS} {x o d mc ms : Nat} {p1 : Int32} {fs : List Value} {Qs : zS → Prop} (hm : zMet X mX9_cutLast yX9_cutLast d mc ms [.ref x, .int p1] σ (fun o_ s => o_ = .inr "java/lang/IndexOutOfBoundsException" ∧ Qs s)) (hx : σ.1 x = .inr (7, fs)) : zMetH X mL_cutLast yL_cutLast (d + 1) mc ms [.ref x, .int p1, .ref o] σ (zI (fun r t => r = 1 ∧ Qs t)) := by
  refine zMetH_of (ls := [some (.ref x), some (.int p1), some (.ref o), none]) (by decide +kernel) rfl rfl hX (Nat.le_of_ble_eq_true rfl) rfl ?_
  refine zr_aload_n dL_cutLast_0 rfl ?_
  refine zr_iconst (v := 0) dL_cutLast_1 (by decide) ?_
  refine zr_aload_n dL_cutLast_2 rfl ?_
  refine zr_iload_n dL_cutLast_3 rfl ?_
  refine zr_callVc (rest := [.int 0, .ref o]) dL_cutLast_4 vL_23 hm (Nat.le_refl _) (Nat.le_refl _) (Nat.le_refl _) rfl rfl (Nat.le_of_ble_eq_true rfl) hx (by decide) (fun v2 s1 h_ => ?_) (fun E s1 h_ => ?_)
  · obtain ⟨e, -⟩ := h_
    cases e
  · obtain ⟨e, hQ⟩ := h_
    cases e
    refine ⟨12, zHas0 lL_19 (by decide +kernel) rfl (by decide), fun q => ?_⟩
    refine zr_astore_n (ls' := [some (.ref x), some (.int p1), some (.ref o), some (.ref q)]) dL_cutLast_12 rfl (by decide) rfl ?_
    refine zr_iconst (v := 1) dL_cutLast_13 (by decide) ?_
    exact zr_ireturn dL_cutLast_14 rfl (rfl) (⟨_, rfl, rfl, hQ⟩)

set_option maxHeartbeats 400000 in
set_option maxRecDepth 100000 in
theorem wN2_cutLast {X : zX} (hX : X.1.stackTraces = false) {σ : zS} {x o d mc ms : Nat} {p1 : Int32} {fs : List Value} {Qs : zS → Prop} (hm : zMet X mX9_cutLast yX9_cutLast d mc ms [.ref x, .int p1] σ (fun o_ s => o_ = .inr "java/lang/UnsupportedOperationException" ∧ Qs s)) (hx : σ.1 x = .inr (7, fs)) : zMetH X mL_cutLast yL_cutLast (d + 1) mc ms [.ref x, .int p1, .ref o] σ (zI (fun r t => r = 2 ∧ Qs t)) := by
  refine zMetH_of (ls := [some (.ref x), some (.int p1), some (.ref o), none]) (by decide +kernel) rfl rfl hX (Nat.le_of_ble_eq_true rfl) rfl ?_
  refine zr_aload_n dL_cutLast_0 rfl ?_
  refine zr_iconst (v := 0) dL_cutLast_1 (by decide) ?_
  refine zr_aload_n dL_cutLast_2 rfl ?_
  refine zr_iload_n dL_cutLast_3 rfl ?_
  refine zr_callVc (rest := [.int 0, .ref o]) dL_cutLast_4 vL_23 hm (Nat.le_refl _) (Nat.le_refl _) (Nat.le_refl _) rfl rfl (Nat.le_of_ble_eq_true rfl) hx (by decide) (fun v2 s1 h_ => ?_) (fun E s1 h_ => ?_)
  · obtain ⟨e, -⟩ := h_
    cases e
  · obtain ⟨e, hQ⟩ := h_
    cases e
    refine ⟨15, zHasS lL_19 (by decide +kernel) (by decide) (zHas0 lL_13 (by decide +kernel) rfl (by decide)), fun q => ?_⟩
    refine zr_astore_n (ls' := [some (.ref x), some (.int p1), some (.ref o), some (.ref q)]) dL_cutLast_15 rfl (by decide) rfl ?_
    refine zr_iconst (v := 2) dL_cutLast_16 (by decide) ?_
    exact zr_ireturn dL_cutLast_17 rfl (rfl) (⟨_, rfl, rfl, hQ⟩)

set_option maxHeartbeats 400000 in
set_option maxRecDepth 100000 in
theorem wOK_cancel {X : zX} (hX : X.1.stackTraces = false) {σ : zS} {x o d mc ms : Nat} {p1 : Int32} {fs : List Value} {Qs : zS → Prop} {v : Int32} {f : Nat → Int64} (hm : zMet X mX9_cancel yX9_cancel d mc ms [.ref x, .int p1] σ (zI (fun r s => r = v ∧ Qs s))) (hx : σ.1 x = .inr (7, fs)) (ho : ∀ σ2, Qs σ2 → σ2.1 o = .inl (3, 1, .inr (.inl f))) : zMetH X mL_cancel yL_cancel (d + 1) mc ms [.ref x, .int p1, .ref o] σ (zI (fun r t => r = 0 ∧ ∃ s, Qs s ∧ t = zup s o (.inl (3, 1, .inr (.inl (vp_updL f 0 v.toInt64)))))) := by
  refine zMetH_of (ls := [some (.ref x), some (.int p1), some (.ref o), none]) (by decide +kernel) rfl rfl hX (Nat.le_of_ble_eq_true rfl) rfl ?_
  refine zr_aload_n dL_cancel_0 rfl ?_
  refine zr_iconst (v := 0) dL_cancel_1 (by decide) ?_
  refine zr_aload_n dL_cancel_2 rfl ?_
  refine zr_iload_n dL_cancel_3 rfl ?_
  refine zr_callVc (rest := [.int 0, .ref o]) dL_cancel_4 vL_27 hm (Nat.le_refl _) (Nat.le_refl _) (Nat.le_refl _) rfl rfl (Nat.le_of_ble_eq_true rfl) hx (by decide) (fun v2 s1 h_ => ?_) (fun E s1 h_ => ?_)
  · obtain ⟨r, e, e2, hQ⟩ := h_
    cases e
    rw [e2]
    have ko := ho s1 hQ
    refine zr_i2l dL_cancel_7 ?_
    refine zr_lastore dL_cancel_8 ko (vp_in_nI (n := 0) (by omega) (by omega)) ?_
    rw [show (0 : Int32).toNatClampNeg = 0 from by decide]
    refine zr_sig (fun ks1 e_ks1 => ?_)
    have kh2 : ks1.1 o = .inl (3, 1, .inr (.inl (vp_updL f 0 ((v).toInt64)))) := by rw [e_ks1]; exact zup_at _ _ _
    refine zr_goto (tgt := 18) dL_cancel_9 (by decide) ?_
    refine zr_iconst (v := 0) dL_cancel_18 (by decide) ?_
    exact zr_ireturn dL_cancel_19 rfl (rfl) (⟨_, rfl, rfl, s1, hQ, by rw [e_ks1]⟩)
  · obtain ⟨r, e, -⟩ := h_
    cases e

set_option maxHeartbeats 400000 in
set_option maxRecDepth 100000 in
theorem wN1_cancel {X : zX} (hX : X.1.stackTraces = false) {σ : zS} {x o d mc ms : Nat} {p1 : Int32} {fs : List Value} {Qs : zS → Prop} (hm : zMet X mX9_cancel yX9_cancel d mc ms [.ref x, .int p1] σ (fun o_ s => o_ = .inr "java/lang/IndexOutOfBoundsException" ∧ Qs s)) (hx : σ.1 x = .inr (7, fs)) : zMetH X mL_cancel yL_cancel (d + 1) mc ms [.ref x, .int p1, .ref o] σ (zI (fun r t => r = 1 ∧ Qs t)) := by
  refine zMetH_of (ls := [some (.ref x), some (.int p1), some (.ref o), none]) (by decide +kernel) rfl rfl hX (Nat.le_of_ble_eq_true rfl) rfl ?_
  refine zr_aload_n dL_cancel_0 rfl ?_
  refine zr_iconst (v := 0) dL_cancel_1 (by decide) ?_
  refine zr_aload_n dL_cancel_2 rfl ?_
  refine zr_iload_n dL_cancel_3 rfl ?_
  refine zr_callVc (rest := [.int 0, .ref o]) dL_cancel_4 vL_27 hm (Nat.le_refl _) (Nat.le_refl _) (Nat.le_refl _) rfl rfl (Nat.le_of_ble_eq_true rfl) hx (by decide) (fun v2 s1 h_ => ?_) (fun E s1 h_ => ?_)
  · obtain ⟨e, -⟩ := h_
    cases e
  · obtain ⟨e, hQ⟩ := h_
    cases e
    refine ⟨12, zHas0 lL_19 (by decide +kernel) rfl (by decide), fun q => ?_⟩
    refine zr_astore_n (ls' := [some (.ref x), some (.int p1), some (.ref o), some (.ref q)]) dL_cancel_12 rfl (by decide) rfl ?_
    refine zr_iconst (v := 1) dL_cancel_13 (by decide) ?_
    exact zr_ireturn dL_cancel_14 rfl (rfl) (⟨_, rfl, rfl, hQ⟩)

set_option maxHeartbeats 400000 in
set_option maxRecDepth 100000 in
theorem wN2_cancel {X : zX} (hX : X.1.stackTraces = false) {σ : zS} {x o d mc ms : Nat} {p1 : Int32} {fs : List Value} {Qs : zS → Prop} (hm : zMet X mX9_cancel yX9_cancel d mc ms [.ref x, .int p1] σ (fun o_ s => o_ = .inr "java/lang/UnsupportedOperationException" ∧ Qs s)) (hx : σ.1 x = .inr (7, fs)) : zMetH X mL_cancel yL_cancel (d + 1) mc ms [.ref x, .int p1, .ref o] σ (zI (fun r t => r = 2 ∧ Qs t)) := by
  refine zMetH_of (ls := [some (.ref x), some (.int p1), some (.ref o), none]) (by decide +kernel) rfl rfl hX (Nat.le_of_ble_eq_true rfl) rfl ?_
  refine zr_aload_n dL_cancel_0 rfl ?_
  refine zr_iconst (v := 0) dL_cancel_1 (by decide) ?_
  refine zr_aload_n dL_cancel_2 rfl ?_
  refine zr_iload_n dL_cancel_3 rfl ?_
  refine zr_callVc (rest := [.int 0, .ref o]) dL_cancel_4 vL_27 hm (Nat.le_refl _) (Nat.le_refl _) (Nat.le_refl _) rfl rfl (Nat.le_of_ble_eq_true rfl) hx (by decide) (fun v2 s1 h_ => ?_) (fun E s1 h_ => ?_)
  · obtain ⟨e, -⟩ := h_
    cases e
  · obtain ⟨e, hQ⟩ := h_
    cases e
    refine ⟨15, zHasS lL_19 (by decide +kernel) (by decide) (zHas0 lL_13 (by decide +kernel) rfl (by decide)), fun q => ?_⟩
    refine zr_astore_n (ls' := [some (.ref x), some (.int p1), some (.ref o), some (.ref q)]) dL_cancel_15 rfl (by decide) rfl ?_
    refine zr_iconst (v := 2) dL_cancel_16 (by decide) ?_
    exact zr_ireturn dL_cancel_17 rfl (rfl) (⟨_, rfl, rfl, hQ⟩)

set_option maxHeartbeats 400000 in
set_option maxRecDepth 100000 in
theorem wOK_relax {X : zX} (hX : X.1.stackTraces = false) {σ : zS} {x o d mc ms : Nat} {p1 : Int32} {fs : List Value} {Qs : zS → Prop} {v : Int32} {f : Nat → Int64} (hm : zMet X mX9_relax yX9_relax d mc ms [.ref x, .int p1] σ (zI (fun r s => r = v ∧ Qs s))) (hx : σ.1 x = .inr (7, fs)) (ho : ∀ σ2, Qs σ2 → σ2.1 o = .inl (3, 1, .inr (.inl f))) : zMetH X mL_relax yL_relax (d + 1) mc ms [.ref x, .int p1, .ref o] σ (zI (fun r t => r = 0 ∧ ∃ s, Qs s ∧ t = zup s o (.inl (3, 1, .inr (.inl (vp_updL f 0 v.toInt64)))))) := by
  refine zMetH_of (ls := [some (.ref x), some (.int p1), some (.ref o), none]) (by decide +kernel) rfl rfl hX (Nat.le_of_ble_eq_true rfl) rfl ?_
  refine zr_aload_n dL_relax_0 rfl ?_
  refine zr_iconst (v := 0) dL_relax_1 (by decide) ?_
  refine zr_aload_n dL_relax_2 rfl ?_
  refine zr_iload_n dL_relax_3 rfl ?_
  refine zr_callVc (rest := [.int 0, .ref o]) dL_relax_4 vL_31 hm (Nat.le_refl _) (Nat.le_refl _) (Nat.le_refl _) rfl rfl (Nat.le_of_ble_eq_true rfl) hx (by decide) (fun v2 s1 h_ => ?_) (fun E s1 h_ => ?_)
  · obtain ⟨r, e, e2, hQ⟩ := h_
    cases e
    rw [e2]
    have ko := ho s1 hQ
    refine zr_i2l dL_relax_7 ?_
    refine zr_lastore dL_relax_8 ko (vp_in_nI (n := 0) (by omega) (by omega)) ?_
    rw [show (0 : Int32).toNatClampNeg = 0 from by decide]
    refine zr_sig (fun ks1 e_ks1 => ?_)
    have kh2 : ks1.1 o = .inl (3, 1, .inr (.inl (vp_updL f 0 ((v).toInt64)))) := by rw [e_ks1]; exact zup_at _ _ _
    refine zr_goto (tgt := 18) dL_relax_9 (by decide) ?_
    refine zr_iconst (v := 0) dL_relax_18 (by decide) ?_
    exact zr_ireturn dL_relax_19 rfl (rfl) (⟨_, rfl, rfl, s1, hQ, by rw [e_ks1]⟩)
  · obtain ⟨r, e, -⟩ := h_
    cases e

set_option maxHeartbeats 400000 in
set_option maxRecDepth 100000 in
theorem wN1_relax {X : zX} (hX : X.1.stackTraces = false) {σ : zS} {x o d mc ms : Nat} {p1 : Int32} {fs : List Value} {Qs : zS → Prop} (hm : zMet X mX9_relax yX9_relax d mc ms [.ref x, .int p1] σ (fun o_ s => o_ = .inr "java/lang/IndexOutOfBoundsException" ∧ Qs s)) (hx : σ.1 x = .inr (7, fs)) : zMetH X mL_relax yL_relax (d + 1) mc ms [.ref x, .int p1, .ref o] σ (zI (fun r t => r = 1 ∧ Qs t)) := by
  refine zMetH_of (ls := [some (.ref x), some (.int p1), some (.ref o), none]) (by decide +kernel) rfl rfl hX (Nat.le_of_ble_eq_true rfl) rfl ?_
  refine zr_aload_n dL_relax_0 rfl ?_
  refine zr_iconst (v := 0) dL_relax_1 (by decide) ?_
  refine zr_aload_n dL_relax_2 rfl ?_
  refine zr_iload_n dL_relax_3 rfl ?_
  refine zr_callVc (rest := [.int 0, .ref o]) dL_relax_4 vL_31 hm (Nat.le_refl _) (Nat.le_refl _) (Nat.le_refl _) rfl rfl (Nat.le_of_ble_eq_true rfl) hx (by decide) (fun v2 s1 h_ => ?_) (fun E s1 h_ => ?_)
  · obtain ⟨e, -⟩ := h_
    cases e
  · obtain ⟨e, hQ⟩ := h_
    cases e
    refine ⟨12, zHas0 lL_19 (by decide +kernel) rfl (by decide), fun q => ?_⟩
    refine zr_astore_n (ls' := [some (.ref x), some (.int p1), some (.ref o), some (.ref q)]) dL_relax_12 rfl (by decide) rfl ?_
    refine zr_iconst (v := 1) dL_relax_13 (by decide) ?_
    exact zr_ireturn dL_relax_14 rfl (rfl) (⟨_, rfl, rfl, hQ⟩)

set_option maxHeartbeats 400000 in
set_option maxRecDepth 100000 in
theorem wN2_relax {X : zX} (hX : X.1.stackTraces = false) {σ : zS} {x o d mc ms : Nat} {p1 : Int32} {fs : List Value} {Qs : zS → Prop} (hm : zMet X mX9_relax yX9_relax d mc ms [.ref x, .int p1] σ (fun o_ s => o_ = .inr "java/lang/UnsupportedOperationException" ∧ Qs s)) (hx : σ.1 x = .inr (7, fs)) : zMetH X mL_relax yL_relax (d + 1) mc ms [.ref x, .int p1, .ref o] σ (zI (fun r t => r = 2 ∧ Qs t)) := by
  refine zMetH_of (ls := [some (.ref x), some (.int p1), some (.ref o), none]) (by decide +kernel) rfl rfl hX (Nat.le_of_ble_eq_true rfl) rfl ?_
  refine zr_aload_n dL_relax_0 rfl ?_
  refine zr_iconst (v := 0) dL_relax_1 (by decide) ?_
  refine zr_aload_n dL_relax_2 rfl ?_
  refine zr_iload_n dL_relax_3 rfl ?_
  refine zr_callVc (rest := [.int 0, .ref o]) dL_relax_4 vL_31 hm (Nat.le_refl _) (Nat.le_refl _) (Nat.le_refl _) rfl rfl (Nat.le_of_ble_eq_true rfl) hx (by decide) (fun v2 s1 h_ => ?_) (fun E s1 h_ => ?_)
  · obtain ⟨e, -⟩ := h_
    cases e
  · obtain ⟨e, hQ⟩ := h_
    cases e
    refine ⟨15, zHasS lL_19 (by decide +kernel) (by decide) (zHas0 lL_13 (by decide +kernel) rfl (by decide)), fun q => ?_⟩
    refine zr_astore_n (ls' := [some (.ref x), some (.int p1), some (.ref o), some (.ref q)]) dL_relax_15 rfl (by decide) rfl ?_
    refine zr_iconst (v := 2) dL_relax_16 (by decide) ?_
    exact zr_ireturn dL_relax_17 rfl (rfl) (⟨_, rfl, rfl, hQ⟩)

set_option maxHeartbeats 400000 in
set_option maxRecDepth 100000 in
theorem wOK_wordLength {X : zX} (hX : X.1.stackTraces = false) {σ : zS} {x o d mc ms : Nat} {p1 : Int32} {fs : List Value} {Qs : zS → Prop} {v : Int32} {f : Nat → Int64} (hm : zMet X mX9_wordLength yX9_wordLength d mc ms [.ref x, .int p1] σ (zI (fun r s => r = v ∧ Qs s))) (hx : σ.1 x = .inr (7, fs)) (ho : ∀ σ2, Qs σ2 → σ2.1 o = .inl (3, 1, .inr (.inl f))) : zMetH X mL_wordLength yL_wordLength (d + 1) mc ms [.ref x, .int p1, .ref o] σ (zI (fun r t => r = 0 ∧ ∃ s, Qs s ∧ t = zup s o (.inl (3, 1, .inr (.inl (vp_updL f 0 v.toInt64)))))) := by
  refine zMetH_of (ls := [some (.ref x), some (.int p1), some (.ref o), none]) (by decide +kernel) rfl rfl hX (Nat.le_of_ble_eq_true rfl) rfl ?_
  refine zr_aload_n dL_wordLength_0 rfl ?_
  refine zr_iconst (v := 0) dL_wordLength_1 (by decide) ?_
  refine zr_aload_n dL_wordLength_2 rfl ?_
  refine zr_iload_n dL_wordLength_3 rfl ?_
  refine zr_callVc (rest := [.int 0, .ref o]) dL_wordLength_4 vL_34 hm (Nat.le_refl _) (Nat.le_refl _) (Nat.le_refl _) rfl rfl (Nat.le_of_ble_eq_true rfl) hx (by decide) (fun v2 s1 h_ => ?_) (fun E s1 h_ => ?_)
  · obtain ⟨r, e, e2, hQ⟩ := h_
    cases e
    rw [e2]
    have ko := ho s1 hQ
    refine zr_i2l dL_wordLength_7 ?_
    refine zr_lastore dL_wordLength_8 ko (vp_in_nI (n := 0) (by omega) (by omega)) ?_
    rw [show (0 : Int32).toNatClampNeg = 0 from by decide]
    refine zr_sig (fun ks1 e_ks1 => ?_)
    have kh2 : ks1.1 o = .inl (3, 1, .inr (.inl (vp_updL f 0 ((v).toInt64)))) := by rw [e_ks1]; exact zup_at _ _ _
    refine zr_goto (tgt := 15) dL_wordLength_9 (by decide) ?_
    refine zr_iconst (v := 0) dL_wordLength_15 (by decide) ?_
    exact zr_ireturn dL_wordLength_16 rfl (rfl) (⟨_, rfl, rfl, s1, hQ, by rw [e_ks1]⟩)
  · obtain ⟨r, e, -⟩ := h_
    cases e

set_option maxHeartbeats 400000 in
set_option maxRecDepth 100000 in
theorem wN1_wordLength {X : zX} (hX : X.1.stackTraces = false) {σ : zS} {x o d mc ms : Nat} {p1 : Int32} {fs : List Value} {Qs : zS → Prop} (hm : zMet X mX9_wordLength yX9_wordLength d mc ms [.ref x, .int p1] σ (fun o_ s => o_ = .inr "java/lang/IndexOutOfBoundsException" ∧ Qs s)) (hx : σ.1 x = .inr (7, fs)) : zMetH X mL_wordLength yL_wordLength (d + 1) mc ms [.ref x, .int p1, .ref o] σ (zI (fun r t => r = 1 ∧ Qs t)) := by
  refine zMetH_of (ls := [some (.ref x), some (.int p1), some (.ref o), none]) (by decide +kernel) rfl rfl hX (Nat.le_of_ble_eq_true rfl) rfl ?_
  refine zr_aload_n dL_wordLength_0 rfl ?_
  refine zr_iconst (v := 0) dL_wordLength_1 (by decide) ?_
  refine zr_aload_n dL_wordLength_2 rfl ?_
  refine zr_iload_n dL_wordLength_3 rfl ?_
  refine zr_callVc (rest := [.int 0, .ref o]) dL_wordLength_4 vL_34 hm (Nat.le_refl _) (Nat.le_refl _) (Nat.le_refl _) rfl rfl (Nat.le_of_ble_eq_true rfl) hx (by decide) (fun v2 s1 h_ => ?_) (fun E s1 h_ => ?_)
  · obtain ⟨e, -⟩ := h_
    cases e
  · obtain ⟨e, hQ⟩ := h_
    cases e
    refine ⟨12, zHas0 lL_19 (by decide +kernel) rfl (by decide), fun q => ?_⟩
    refine zr_astore_n (ls' := [some (.ref x), some (.int p1), some (.ref o), some (.ref q)]) dL_wordLength_12 rfl (by decide) rfl ?_
    refine zr_iconst (v := 1) dL_wordLength_13 (by decide) ?_
    exact zr_ireturn dL_wordLength_14 rfl (rfl) (⟨_, rfl, rfl, hQ⟩)

set_option maxHeartbeats 400000 in
set_option maxRecDepth 100000 in
theorem wOK_letterAt {X : zX} (hX : X.1.stackTraces = false) {σ : zS} {x o d mc ms : Nat} {p1 p2 : Int32} {fs : List Value} {Qs : zS → Prop} {v : Int32} {f : Nat → Int64} (hm : zMet X mX9_letterAt yX9_letterAt d mc ms [.ref x, .int p1, .int p2] σ (zI (fun r s => r = v ∧ Qs s))) (hx : σ.1 x = .inr (7, fs)) (ho : ∀ σ2, Qs σ2 → σ2.1 o = .inl (3, 1, .inr (.inl f))) : zMetH X mL_letterAt yL_letterAt (d + 1) mc ms [.ref x, .int p1, .int p2, .ref o] σ (zI (fun r t => r = 0 ∧ ∃ s, Qs s ∧ t = zup s o (.inl (3, 1, .inr (.inl (vp_updL f 0 v.toInt64)))))) := by
  refine zMetH_of (ls := [some (.ref x), some (.int p1), some (.int p2), some (.ref o), none]) (by decide +kernel) rfl rfl hX (Nat.le_of_ble_eq_true rfl) rfl ?_
  refine zr_aload_n dL_letterAt_0 rfl ?_
  refine zr_iconst (v := 0) dL_letterAt_1 (by decide) ?_
  refine zr_aload_n dL_letterAt_2 rfl ?_
  refine zr_iload_n dL_letterAt_3 rfl ?_
  refine zr_iload_n dL_letterAt_4 rfl ?_
  refine zr_callVc (rest := [.int 0, .ref o]) dL_letterAt_5 vL_37 hm (Nat.le_refl _) (Nat.le_refl _) (Nat.le_refl _) rfl rfl (Nat.le_of_ble_eq_true rfl) hx (by decide) (fun v2 s1 h_ => ?_) (fun E s1 h_ => ?_)
  · obtain ⟨r, e, e2, hQ⟩ := h_
    cases e
    rw [e2]
    have ko := ho s1 hQ
    refine zr_i2l dL_letterAt_8 ?_
    refine zr_lastore dL_letterAt_9 ko (vp_in_nI (n := 0) (by omega) (by omega)) ?_
    rw [show (0 : Int32).toNatClampNeg = 0 from by decide]
    refine zr_sig (fun ks1 e_ks1 => ?_)
    have kh2 : ks1.1 o = .inl (3, 1, .inr (.inl (vp_updL f 0 ((v).toInt64)))) := by rw [e_ks1]; exact zup_at _ _ _
    refine zr_goto (tgt := 21) dL_letterAt_10 (by decide) ?_
    refine zr_iconst (v := 0) dL_letterAt_21 (by decide) ?_
    exact zr_ireturn dL_letterAt_22 rfl (rfl) (⟨_, rfl, rfl, s1, hQ, by rw [e_ks1]⟩)
  · obtain ⟨r, e, -⟩ := h_
    cases e

set_option maxHeartbeats 400000 in
set_option maxRecDepth 100000 in
theorem wN1_letterAt {X : zX} (hX : X.1.stackTraces = false) {σ : zS} {x o d mc ms : Nat} {p1 p2 : Int32} {fs : List Value} {Qs : zS → Prop} (hm : zMet X mX9_letterAt yX9_letterAt d mc ms [.ref x, .int p1, .int p2] σ (fun o_ s => o_ = .inr "java/lang/IndexOutOfBoundsException" ∧ Qs s)) (hx : σ.1 x = .inr (7, fs)) : zMetH X mL_letterAt yL_letterAt (d + 1) mc ms [.ref x, .int p1, .int p2, .ref o] σ (zI (fun r t => r = 1 ∧ Qs t)) := by
  refine zMetH_of (ls := [some (.ref x), some (.int p1), some (.int p2), some (.ref o), none]) (by decide +kernel) rfl rfl hX (Nat.le_of_ble_eq_true rfl) rfl ?_
  refine zr_aload_n dL_letterAt_0 rfl ?_
  refine zr_iconst (v := 0) dL_letterAt_1 (by decide) ?_
  refine zr_aload_n dL_letterAt_2 rfl ?_
  refine zr_iload_n dL_letterAt_3 rfl ?_
  refine zr_iload_n dL_letterAt_4 rfl ?_
  refine zr_callVc (rest := [.int 0, .ref o]) dL_letterAt_5 vL_37 hm (Nat.le_refl _) (Nat.le_refl _) (Nat.le_refl _) rfl rfl (Nat.le_of_ble_eq_true rfl) hx (by decide) (fun v2 s1 h_ => ?_) (fun E s1 h_ => ?_)
  · obtain ⟨e, -⟩ := h_
    cases e
  · obtain ⟨e, hQ⟩ := h_
    cases e
    refine ⟨13, zHas0 lL_19 (by decide +kernel) rfl (by decide), fun q => ?_⟩
    refine zr_astore (ls' := [some (.ref x), some (.int p1), some (.int p2), some (.ref o), some (.ref q)]) dL_letterAt_13 (by decide) rfl ?_
    refine zr_iconst (v := 1) dL_letterAt_15 (by decide) ?_
    exact zr_ireturn dL_letterAt_16 rfl (rfl) (⟨_, rfl, rfl, hQ⟩)

set_option maxHeartbeats 400000 in
set_option maxRecDepth 100000 in
theorem wN2_letterAt {X : zX} (hX : X.1.stackTraces = false) {σ : zS} {x o d mc ms : Nat} {p1 p2 : Int32} {fs : List Value} {Qs : zS → Prop} (hm : zMet X mX9_letterAt yX9_letterAt d mc ms [.ref x, .int p1, .int p2] σ (fun o_ s => o_ = .inr "java/util/NoSuchElementException" ∧ Qs s)) (hx : σ.1 x = .inr (7, fs)) : zMetH X mL_letterAt yL_letterAt (d + 1) mc ms [.ref x, .int p1, .int p2, .ref o] σ (zI (fun r t => r = 2 ∧ Qs t)) := by
  refine zMetH_of (ls := [some (.ref x), some (.int p1), some (.int p2), some (.ref o), none]) (by decide +kernel) rfl rfl hX (Nat.le_of_ble_eq_true rfl) rfl ?_
  refine zr_aload_n dL_letterAt_0 rfl ?_
  refine zr_iconst (v := 0) dL_letterAt_1 (by decide) ?_
  refine zr_aload_n dL_letterAt_2 rfl ?_
  refine zr_iload_n dL_letterAt_3 rfl ?_
  refine zr_iload_n dL_letterAt_4 rfl ?_
  refine zr_callVc (rest := [.int 0, .ref o]) dL_letterAt_5 vL_37 hm (Nat.le_refl _) (Nat.le_refl _) (Nat.le_refl _) rfl rfl (Nat.le_of_ble_eq_true rfl) hx (by decide) (fun v2 s1 h_ => ?_) (fun E s1 h_ => ?_)
  · obtain ⟨e, -⟩ := h_
    cases e
  · obtain ⟨e, hQ⟩ := h_
    cases e
    refine ⟨17, zHasS lL_19 (by decide +kernel) (by decide) (zHas0 lL_41 (by decide +kernel) rfl (by decide)), fun q => ?_⟩
    refine zr_astore (ls' := [some (.ref x), some (.int p1), some (.int p2), some (.ref o), some (.ref q)]) dL_letterAt_17 (by decide) rfl ?_
    refine zr_iconst (v := 2) dL_letterAt_19 (by decide) ?_
    exact zr_ireturn dL_letterAt_20 rfl (rfl) (⟨_, rfl, rfl, hQ⟩)

set_option maxHeartbeats 400000 in
set_option maxRecDepth 100000 in
theorem wOK_hasHandle {X : zX} (hX : X.1.stackTraces = false) {σ : zS} {x o d mc ms : Nat} {p1 : Int32} {fs : List Value} {Qs : zS → Prop} {v : Int32} {f : Nat → Int64} (hm : zMet X mX9_hasHandle yX9_hasHandle d mc ms [.ref x, .int p1] σ (zI (fun r s => r = v ∧ Qs s))) (hx : σ.1 x = .inr (7, fs)) (ho : ∀ σ2, Qs σ2 → σ2.1 o = .inl (3, 1, .inr (.inl f))) : zMetH X mL_hasHandle yL_hasHandle (d + 1) mc ms [.ref x, .int p1, .ref o] σ (zI (fun r t => r = 0 ∧ ∃ s, Qs s ∧ t = zup s o (.inl (3, 1, .inr (.inl (vp_updL f 0 (if v = 0 then 0 else 1))))))) := by
  refine zMetH_of (ls := [some (.ref x), some (.int p1), some (.ref o), none]) (by decide +kernel) rfl rfl hX (Nat.le_of_ble_eq_true rfl) rfl ?_
  refine zr_aload_n dL_hasHandle_0 rfl ?_
  refine zr_iconst (v := 0) dL_hasHandle_1 (by decide) ?_
  refine zr_aload_n dL_hasHandle_2 rfl ?_
  refine zr_iload_n dL_hasHandle_3 rfl ?_
  refine zr_callVc (rest := [.int 0, .ref o]) dL_hasHandle_4 vL_43 hm (Nat.le_refl _) (Nat.le_refl _) (Nat.le_refl _) rfl rfl (Nat.le_of_ble_eq_true rfl) hx (by decide) (fun v2 s1 h_ => ?_) (fun E s1 h_ => ?_)
  · obtain ⟨r, e, e2, hQ⟩ := h_
    cases e
    rw [e2]
    have ko := ho s1 hQ
    refine zr_if_eq (tgt := 14) dL_hasHandle_7 (by decide) (fun c_7 => ?_) (fun c_7 => ?_)
    · refine zr_lconst (v := 0) dL_hasHandle_14 (by decide) ?_
      refine zr_lastore dL_hasHandle_15 ko (vp_in_nI (n := 0) (by omega) (by omega)) ?_
      rw [show (0 : Int32).toNatClampNeg = 0 from by decide]
      refine zr_sig (fun ks1 e_ks1 => ?_)
      have kh2 : ks1.1 o = .inl (3, 1, .inr (.inl (vp_updL f 0 0))) := by rw [e_ks1]; exact zup_at _ _ _
      refine zr_goto (tgt := 22) dL_hasHandle_16 (by decide) ?_
      refine zr_iconst (v := 0) dL_hasHandle_22 (by decide) ?_
      exact zr_ireturn dL_hasHandle_23 rfl (rfl) (⟨_, rfl, rfl, s1, hQ, by rw [e_ks1, if_pos c_7]⟩)
    · refine zr_lconst (v := 1) dL_hasHandle_10 (by decide) ?_
      refine zr_goto (tgt := 15) dL_hasHandle_11 (by decide) ?_
      refine zr_lastore dL_hasHandle_15 ko (vp_in_nI (n := 0) (by omega) (by omega)) ?_
      rw [show (0 : Int32).toNatClampNeg = 0 from by decide]
      refine zr_sig (fun ks3 e_ks3 => ?_)
      have kh4 : ks3.1 o = .inl (3, 1, .inr (.inl (vp_updL f 0 1))) := by rw [e_ks3]; exact zup_at _ _ _
      refine zr_goto (tgt := 22) dL_hasHandle_16 (by decide) ?_
      refine zr_iconst (v := 0) dL_hasHandle_22 (by decide) ?_
      exact zr_ireturn dL_hasHandle_23 rfl (rfl) (⟨_, rfl, rfl, s1, hQ, by rw [e_ks3, if_neg c_7]⟩)
  · obtain ⟨r, e, -⟩ := h_
    cases e

set_option maxHeartbeats 400000 in
set_option maxRecDepth 100000 in
theorem wN1_hasHandle {X : zX} (hX : X.1.stackTraces = false) {σ : zS} {x o d mc ms : Nat} {p1 : Int32} {fs : List Value} {Qs : zS → Prop} (hm : zMet X mX9_hasHandle yX9_hasHandle d mc ms [.ref x, .int p1] σ (fun o_ s => o_ = .inr "java/lang/IndexOutOfBoundsException" ∧ Qs s)) (hx : σ.1 x = .inr (7, fs)) : zMetH X mL_hasHandle yL_hasHandle (d + 1) mc ms [.ref x, .int p1, .ref o] σ (zI (fun r t => r = 1 ∧ Qs t)) := by
  refine zMetH_of (ls := [some (.ref x), some (.int p1), some (.ref o), none]) (by decide +kernel) rfl rfl hX (Nat.le_of_ble_eq_true rfl) rfl ?_
  refine zr_aload_n dL_hasHandle_0 rfl ?_
  refine zr_iconst (v := 0) dL_hasHandle_1 (by decide) ?_
  refine zr_aload_n dL_hasHandle_2 rfl ?_
  refine zr_iload_n dL_hasHandle_3 rfl ?_
  refine zr_callVc (rest := [.int 0, .ref o]) dL_hasHandle_4 vL_43 hm (Nat.le_refl _) (Nat.le_refl _) (Nat.le_refl _) rfl rfl (Nat.le_of_ble_eq_true rfl) hx (by decide) (fun v2 s1 h_ => ?_) (fun E s1 h_ => ?_)
  · obtain ⟨e, -⟩ := h_
    cases e
  · obtain ⟨e, hQ⟩ := h_
    cases e
    refine ⟨19, zHas0 lL_19 (by decide +kernel) rfl (by decide), fun q => ?_⟩
    refine zr_astore_n (ls' := [some (.ref x), some (.int p1), some (.ref o), some (.ref q)]) dL_hasHandle_19 rfl (by decide) rfl ?_
    refine zr_iconst (v := 1) dL_hasHandle_20 (by decide) ?_
    exact zr_ireturn dL_hasHandle_21 rfl (rfl) (⟨_, rfl, rfl, hQ⟩)

set_option maxHeartbeats 400000 in
set_option maxRecDepth 100000 in
theorem wOK_handleBegin {X : zX} (hX : X.1.stackTraces = false) {σ : zS} {x o d mc ms : Nat} {p1 : Int32} {fs : List Value} {Qs : zS → Prop} {v : Int32} {f : Nat → Int64} (hm : zMet X mX9_handleBegin yX9_handleBegin d mc ms [.ref x, .int p1] σ (zI (fun r s => r = v ∧ Qs s))) (hx : σ.1 x = .inr (7, fs)) (ho : ∀ σ2, Qs σ2 → σ2.1 o = .inl (3, 1, .inr (.inl f))) : zMetH X mL_handleBegin yL_handleBegin (d + 1) mc ms [.ref x, .int p1, .ref o] σ (zI (fun r t => r = 0 ∧ ∃ s, Qs s ∧ t = zup s o (.inl (3, 1, .inr (.inl (vp_updL f 0 v.toInt64)))))) := by
  refine zMetH_of (ls := [some (.ref x), some (.int p1), some (.ref o), none]) (by decide +kernel) rfl rfl hX (Nat.le_of_ble_eq_true rfl) rfl ?_
  refine zr_aload_n dL_handleBegin_0 rfl ?_
  refine zr_iconst (v := 0) dL_handleBegin_1 (by decide) ?_
  refine zr_aload_n dL_handleBegin_2 rfl ?_
  refine zr_iload_n dL_handleBegin_3 rfl ?_
  refine zr_callVc (rest := [.int 0, .ref o]) dL_handleBegin_4 vL_47 hm (Nat.le_refl _) (Nat.le_refl _) (Nat.le_refl _) rfl rfl (Nat.le_of_ble_eq_true rfl) hx (by decide) (fun v2 s1 h_ => ?_) (fun E s1 h_ => ?_)
  · obtain ⟨r, e, e2, hQ⟩ := h_
    cases e
    rw [e2]
    have ko := ho s1 hQ
    refine zr_i2l dL_handleBegin_7 ?_
    refine zr_lastore dL_handleBegin_8 ko (vp_in_nI (n := 0) (by omega) (by omega)) ?_
    rw [show (0 : Int32).toNatClampNeg = 0 from by decide]
    refine zr_sig (fun ks1 e_ks1 => ?_)
    have kh2 : ks1.1 o = .inl (3, 1, .inr (.inl (vp_updL f 0 ((v).toInt64)))) := by rw [e_ks1]; exact zup_at _ _ _
    refine zr_goto (tgt := 18) dL_handleBegin_9 (by decide) ?_
    refine zr_iconst (v := 0) dL_handleBegin_18 (by decide) ?_
    exact zr_ireturn dL_handleBegin_19 rfl (rfl) (⟨_, rfl, rfl, s1, hQ, by rw [e_ks1]⟩)
  · obtain ⟨r, e, -⟩ := h_
    cases e

set_option maxHeartbeats 400000 in
set_option maxRecDepth 100000 in
theorem wN1_handleBegin {X : zX} (hX : X.1.stackTraces = false) {σ : zS} {x o d mc ms : Nat} {p1 : Int32} {fs : List Value} {Qs : zS → Prop} (hm : zMet X mX9_handleBegin yX9_handleBegin d mc ms [.ref x, .int p1] σ (fun o_ s => o_ = .inr "java/lang/IndexOutOfBoundsException" ∧ Qs s)) (hx : σ.1 x = .inr (7, fs)) : zMetH X mL_handleBegin yL_handleBegin (d + 1) mc ms [.ref x, .int p1, .ref o] σ (zI (fun r t => r = 1 ∧ Qs t)) := by
  refine zMetH_of (ls := [some (.ref x), some (.int p1), some (.ref o), none]) (by decide +kernel) rfl rfl hX (Nat.le_of_ble_eq_true rfl) rfl ?_
  refine zr_aload_n dL_handleBegin_0 rfl ?_
  refine zr_iconst (v := 0) dL_handleBegin_1 (by decide) ?_
  refine zr_aload_n dL_handleBegin_2 rfl ?_
  refine zr_iload_n dL_handleBegin_3 rfl ?_
  refine zr_callVc (rest := [.int 0, .ref o]) dL_handleBegin_4 vL_47 hm (Nat.le_refl _) (Nat.le_refl _) (Nat.le_refl _) rfl rfl (Nat.le_of_ble_eq_true rfl) hx (by decide) (fun v2 s1 h_ => ?_) (fun E s1 h_ => ?_)
  · obtain ⟨e, -⟩ := h_
    cases e
  · obtain ⟨e, hQ⟩ := h_
    cases e
    refine ⟨12, zHas0 lL_19 (by decide +kernel) rfl (by decide), fun q => ?_⟩
    refine zr_astore_n (ls' := [some (.ref x), some (.int p1), some (.ref o), some (.ref q)]) dL_handleBegin_12 rfl (by decide) rfl ?_
    refine zr_iconst (v := 1) dL_handleBegin_13 (by decide) ?_
    exact zr_ireturn dL_handleBegin_14 rfl (rfl) (⟨_, rfl, rfl, hQ⟩)

set_option maxHeartbeats 400000 in
set_option maxRecDepth 100000 in
theorem wN2_handleBegin {X : zX} (hX : X.1.stackTraces = false) {σ : zS} {x o d mc ms : Nat} {p1 : Int32} {fs : List Value} {Qs : zS → Prop} (hm : zMet X mX9_handleBegin yX9_handleBegin d mc ms [.ref x, .int p1] σ (fun o_ s => o_ = .inr "java/util/NoSuchElementException" ∧ Qs s)) (hx : σ.1 x = .inr (7, fs)) : zMetH X mL_handleBegin yL_handleBegin (d + 1) mc ms [.ref x, .int p1, .ref o] σ (zI (fun r t => r = 2 ∧ Qs t)) := by
  refine zMetH_of (ls := [some (.ref x), some (.int p1), some (.ref o), none]) (by decide +kernel) rfl rfl hX (Nat.le_of_ble_eq_true rfl) rfl ?_
  refine zr_aload_n dL_handleBegin_0 rfl ?_
  refine zr_iconst (v := 0) dL_handleBegin_1 (by decide) ?_
  refine zr_aload_n dL_handleBegin_2 rfl ?_
  refine zr_iload_n dL_handleBegin_3 rfl ?_
  refine zr_callVc (rest := [.int 0, .ref o]) dL_handleBegin_4 vL_47 hm (Nat.le_refl _) (Nat.le_refl _) (Nat.le_refl _) rfl rfl (Nat.le_of_ble_eq_true rfl) hx (by decide) (fun v2 s1 h_ => ?_) (fun E s1 h_ => ?_)
  · obtain ⟨e, -⟩ := h_
    cases e
  · obtain ⟨e, hQ⟩ := h_
    cases e
    refine ⟨15, zHasS lL_19 (by decide +kernel) (by decide) (zHas0 lL_41 (by decide +kernel) rfl (by decide)), fun q => ?_⟩
    refine zr_astore_n (ls' := [some (.ref x), some (.int p1), some (.ref o), some (.ref q)]) dL_handleBegin_15 rfl (by decide) rfl ?_
    refine zr_iconst (v := 2) dL_handleBegin_16 (by decide) ?_
    exact zr_ireturn dL_handleBegin_17 rfl (rfl) (⟨_, rfl, rfl, hQ⟩)

set_option maxHeartbeats 400000 in
set_option maxRecDepth 100000 in
theorem wOK_handleEnd {X : zX} (hX : X.1.stackTraces = false) {σ : zS} {x o d mc ms : Nat} {p1 : Int32} {fs : List Value} {Qs : zS → Prop} {v : Int32} {f : Nat → Int64} (hm : zMet X mX9_handleEnd yX9_handleEnd d mc ms [.ref x, .int p1] σ (zI (fun r s => r = v ∧ Qs s))) (hx : σ.1 x = .inr (7, fs)) (ho : ∀ σ2, Qs σ2 → σ2.1 o = .inl (3, 1, .inr (.inl f))) : zMetH X mL_handleEnd yL_handleEnd (d + 1) mc ms [.ref x, .int p1, .ref o] σ (zI (fun r t => r = 0 ∧ ∃ s, Qs s ∧ t = zup s o (.inl (3, 1, .inr (.inl (vp_updL f 0 v.toInt64)))))) := by
  refine zMetH_of (ls := [some (.ref x), some (.int p1), some (.ref o), none]) (by decide +kernel) rfl rfl hX (Nat.le_of_ble_eq_true rfl) rfl ?_
  refine zr_aload_n dL_handleEnd_0 rfl ?_
  refine zr_iconst (v := 0) dL_handleEnd_1 (by decide) ?_
  refine zr_aload_n dL_handleEnd_2 rfl ?_
  refine zr_iload_n dL_handleEnd_3 rfl ?_
  refine zr_callVc (rest := [.int 0, .ref o]) dL_handleEnd_4 vL_50 hm (Nat.le_refl _) (Nat.le_refl _) (Nat.le_refl _) rfl rfl (Nat.le_of_ble_eq_true rfl) hx (by decide) (fun v2 s1 h_ => ?_) (fun E s1 h_ => ?_)
  · obtain ⟨r, e, e2, hQ⟩ := h_
    cases e
    rw [e2]
    have ko := ho s1 hQ
    refine zr_i2l dL_handleEnd_7 ?_
    refine zr_lastore dL_handleEnd_8 ko (vp_in_nI (n := 0) (by omega) (by omega)) ?_
    rw [show (0 : Int32).toNatClampNeg = 0 from by decide]
    refine zr_sig (fun ks1 e_ks1 => ?_)
    have kh2 : ks1.1 o = .inl (3, 1, .inr (.inl (vp_updL f 0 ((v).toInt64)))) := by rw [e_ks1]; exact zup_at _ _ _
    refine zr_goto (tgt := 18) dL_handleEnd_9 (by decide) ?_
    refine zr_iconst (v := 0) dL_handleEnd_18 (by decide) ?_
    exact zr_ireturn dL_handleEnd_19 rfl (rfl) (⟨_, rfl, rfl, s1, hQ, by rw [e_ks1]⟩)
  · obtain ⟨r, e, -⟩ := h_
    cases e

set_option maxHeartbeats 400000 in
set_option maxRecDepth 100000 in
theorem wN1_handleEnd {X : zX} (hX : X.1.stackTraces = false) {σ : zS} {x o d mc ms : Nat} {p1 : Int32} {fs : List Value} {Qs : zS → Prop} (hm : zMet X mX9_handleEnd yX9_handleEnd d mc ms [.ref x, .int p1] σ (fun o_ s => o_ = .inr "java/lang/IndexOutOfBoundsException" ∧ Qs s)) (hx : σ.1 x = .inr (7, fs)) : zMetH X mL_handleEnd yL_handleEnd (d + 1) mc ms [.ref x, .int p1, .ref o] σ (zI (fun r t => r = 1 ∧ Qs t)) := by
  refine zMetH_of (ls := [some (.ref x), some (.int p1), some (.ref o), none]) (by decide +kernel) rfl rfl hX (Nat.le_of_ble_eq_true rfl) rfl ?_
  refine zr_aload_n dL_handleEnd_0 rfl ?_
  refine zr_iconst (v := 0) dL_handleEnd_1 (by decide) ?_
  refine zr_aload_n dL_handleEnd_2 rfl ?_
  refine zr_iload_n dL_handleEnd_3 rfl ?_
  refine zr_callVc (rest := [.int 0, .ref o]) dL_handleEnd_4 vL_50 hm (Nat.le_refl _) (Nat.le_refl _) (Nat.le_refl _) rfl rfl (Nat.le_of_ble_eq_true rfl) hx (by decide) (fun v2 s1 h_ => ?_) (fun E s1 h_ => ?_)
  · obtain ⟨e, -⟩ := h_
    cases e
  · obtain ⟨e, hQ⟩ := h_
    cases e
    refine ⟨12, zHas0 lL_19 (by decide +kernel) rfl (by decide), fun q => ?_⟩
    refine zr_astore_n (ls' := [some (.ref x), some (.int p1), some (.ref o), some (.ref q)]) dL_handleEnd_12 rfl (by decide) rfl ?_
    refine zr_iconst (v := 1) dL_handleEnd_13 (by decide) ?_
    exact zr_ireturn dL_handleEnd_14 rfl (rfl) (⟨_, rfl, rfl, hQ⟩)

set_option maxHeartbeats 400000 in
set_option maxRecDepth 100000 in
theorem wN2_handleEnd {X : zX} (hX : X.1.stackTraces = false) {σ : zS} {x o d mc ms : Nat} {p1 : Int32} {fs : List Value} {Qs : zS → Prop} (hm : zMet X mX9_handleEnd yX9_handleEnd d mc ms [.ref x, .int p1] σ (fun o_ s => o_ = .inr "java/util/NoSuchElementException" ∧ Qs s)) (hx : σ.1 x = .inr (7, fs)) : zMetH X mL_handleEnd yL_handleEnd (d + 1) mc ms [.ref x, .int p1, .ref o] σ (zI (fun r t => r = 2 ∧ Qs t)) := by
  refine zMetH_of (ls := [some (.ref x), some (.int p1), some (.ref o), none]) (by decide +kernel) rfl rfl hX (Nat.le_of_ble_eq_true rfl) rfl ?_
  refine zr_aload_n dL_handleEnd_0 rfl ?_
  refine zr_iconst (v := 0) dL_handleEnd_1 (by decide) ?_
  refine zr_aload_n dL_handleEnd_2 rfl ?_
  refine zr_iload_n dL_handleEnd_3 rfl ?_
  refine zr_callVc (rest := [.int 0, .ref o]) dL_handleEnd_4 vL_50 hm (Nat.le_refl _) (Nat.le_refl _) (Nat.le_refl _) rfl rfl (Nat.le_of_ble_eq_true rfl) hx (by decide) (fun v2 s1 h_ => ?_) (fun E s1 h_ => ?_)
  · obtain ⟨e, -⟩ := h_
    cases e
  · obtain ⟨e, hQ⟩ := h_
    cases e
    refine ⟨15, zHasS lL_19 (by decide +kernel) (by decide) (zHas0 lL_41 (by decide +kernel) rfl (by decide)), fun q => ?_⟩
    refine zr_astore_n (ls' := [some (.ref x), some (.int p1), some (.ref o), some (.ref q)]) dL_handleEnd_15 rfl (by decide) rfl ?_
    refine zr_iconst (v := 2) dL_handleEnd_16 (by decide) ?_
    exact zr_ireturn dL_handleEnd_17 rfl (rfl) (⟨_, rfl, rfl, hQ⟩)

set_option maxHeartbeats 400000 in
set_option maxRecDepth 100000 in
theorem wOK_relaxedLength {X : zX} (hX : X.1.stackTraces = false) {σ : zS} {x o d mc ms : Nat} {p1 : Int32} {fs : List Value} {Qs : zS → Prop} {v : Int32} {f : Nat → Int64} (hm : zMet X mX9_relaxedLength yX9_relaxedLength d mc ms [.ref x, .int p1] σ (zI (fun r s => r = v ∧ Qs s))) (hx : σ.1 x = .inr (7, fs)) (ho : ∀ σ2, Qs σ2 → σ2.1 o = .inl (3, 1, .inr (.inl f))) : zMetH X mL_relaxedLength yL_relaxedLength (d + 1) mc ms [.ref x, .int p1, .ref o] σ (zI (fun r t => r = 0 ∧ ∃ s, Qs s ∧ t = zup s o (.inl (3, 1, .inr (.inl (vp_updL f 0 v.toInt64)))))) := by
  refine zMetH_of (ls := [some (.ref x), some (.int p1), some (.ref o), none]) (by decide +kernel) rfl rfl hX (Nat.le_of_ble_eq_true rfl) rfl ?_
  refine zr_aload_n dL_relaxedLength_0 rfl ?_
  refine zr_iconst (v := 0) dL_relaxedLength_1 (by decide) ?_
  refine zr_aload_n dL_relaxedLength_2 rfl ?_
  refine zr_iload_n dL_relaxedLength_3 rfl ?_
  refine zr_callVc (rest := [.int 0, .ref o]) dL_relaxedLength_4 vL_53 hm (Nat.le_refl _) (Nat.le_refl _) (Nat.le_refl _) rfl rfl (Nat.le_of_ble_eq_true rfl) hx (by decide) (fun v2 s1 h_ => ?_) (fun E s1 h_ => ?_)
  · obtain ⟨r, e, e2, hQ⟩ := h_
    cases e
    rw [e2]
    have ko := ho s1 hQ
    refine zr_i2l dL_relaxedLength_7 ?_
    refine zr_lastore dL_relaxedLength_8 ko (vp_in_nI (n := 0) (by omega) (by omega)) ?_
    rw [show (0 : Int32).toNatClampNeg = 0 from by decide]
    refine zr_sig (fun ks1 e_ks1 => ?_)
    have kh2 : ks1.1 o = .inl (3, 1, .inr (.inl (vp_updL f 0 ((v).toInt64)))) := by rw [e_ks1]; exact zup_at _ _ _
    refine zr_goto (tgt := 18) dL_relaxedLength_9 (by decide) ?_
    refine zr_iconst (v := 0) dL_relaxedLength_18 (by decide) ?_
    exact zr_ireturn dL_relaxedLength_19 rfl (rfl) (⟨_, rfl, rfl, s1, hQ, by rw [e_ks1]⟩)
  · obtain ⟨r, e, -⟩ := h_
    cases e

set_option maxHeartbeats 400000 in
set_option maxRecDepth 100000 in
theorem wN1_relaxedLength {X : zX} (hX : X.1.stackTraces = false) {σ : zS} {x o d mc ms : Nat} {p1 : Int32} {fs : List Value} {Qs : zS → Prop} (hm : zMet X mX9_relaxedLength yX9_relaxedLength d mc ms [.ref x, .int p1] σ (fun o_ s => o_ = .inr "java/lang/IndexOutOfBoundsException" ∧ Qs s)) (hx : σ.1 x = .inr (7, fs)) : zMetH X mL_relaxedLength yL_relaxedLength (d + 1) mc ms [.ref x, .int p1, .ref o] σ (zI (fun r t => r = 1 ∧ Qs t)) := by
  refine zMetH_of (ls := [some (.ref x), some (.int p1), some (.ref o), none]) (by decide +kernel) rfl rfl hX (Nat.le_of_ble_eq_true rfl) rfl ?_
  refine zr_aload_n dL_relaxedLength_0 rfl ?_
  refine zr_iconst (v := 0) dL_relaxedLength_1 (by decide) ?_
  refine zr_aload_n dL_relaxedLength_2 rfl ?_
  refine zr_iload_n dL_relaxedLength_3 rfl ?_
  refine zr_callVc (rest := [.int 0, .ref o]) dL_relaxedLength_4 vL_53 hm (Nat.le_refl _) (Nat.le_refl _) (Nat.le_refl _) rfl rfl (Nat.le_of_ble_eq_true rfl) hx (by decide) (fun v2 s1 h_ => ?_) (fun E s1 h_ => ?_)
  · obtain ⟨e, -⟩ := h_
    cases e
  · obtain ⟨e, hQ⟩ := h_
    cases e
    refine ⟨12, zHas0 lL_19 (by decide +kernel) rfl (by decide), fun q => ?_⟩
    refine zr_astore_n (ls' := [some (.ref x), some (.int p1), some (.ref o), some (.ref q)]) dL_relaxedLength_12 rfl (by decide) rfl ?_
    refine zr_iconst (v := 1) dL_relaxedLength_13 (by decide) ?_
    exact zr_ireturn dL_relaxedLength_14 rfl (rfl) (⟨_, rfl, rfl, hQ⟩)

set_option maxHeartbeats 400000 in
set_option maxRecDepth 100000 in
theorem wN2_relaxedLength {X : zX} (hX : X.1.stackTraces = false) {σ : zS} {x o d mc ms : Nat} {p1 : Int32} {fs : List Value} {Qs : zS → Prop} (hm : zMet X mX9_relaxedLength yX9_relaxedLength d mc ms [.ref x, .int p1] σ (fun o_ s => o_ = .inr "java/lang/IllegalStateException" ∧ Qs s)) (hx : σ.1 x = .inr (7, fs)) : zMetH X mL_relaxedLength yL_relaxedLength (d + 1) mc ms [.ref x, .int p1, .ref o] σ (zI (fun r t => r = 2 ∧ Qs t)) := by
  refine zMetH_of (ls := [some (.ref x), some (.int p1), some (.ref o), none]) (by decide +kernel) rfl rfl hX (Nat.le_of_ble_eq_true rfl) rfl ?_
  refine zr_aload_n dL_relaxedLength_0 rfl ?_
  refine zr_iconst (v := 0) dL_relaxedLength_1 (by decide) ?_
  refine zr_aload_n dL_relaxedLength_2 rfl ?_
  refine zr_iload_n dL_relaxedLength_3 rfl ?_
  refine zr_callVc (rest := [.int 0, .ref o]) dL_relaxedLength_4 vL_53 hm (Nat.le_refl _) (Nat.le_refl _) (Nat.le_refl _) rfl rfl (Nat.le_of_ble_eq_true rfl) hx (by decide) (fun v2 s1 h_ => ?_) (fun E s1 h_ => ?_)
  · obtain ⟨e, -⟩ := h_
    cases e
  · obtain ⟨e, hQ⟩ := h_
    cases e
    refine ⟨15, zHasS lL_19 (by decide +kernel) (by decide) (zHas0 lL_56 (by decide +kernel) rfl (by decide)), fun q => ?_⟩
    refine zr_astore_n (ls' := [some (.ref x), some (.int p1), some (.ref o), some (.ref q)]) dL_relaxedLength_15 rfl (by decide) rfl ?_
    refine zr_iconst (v := 2) dL_relaxedLength_16 (by decide) ?_
    exact zr_ireturn dL_relaxedLength_17 rfl (rfl) (⟨_, rfl, rfl, hQ⟩)

set_option maxHeartbeats 400000 in
set_option maxRecDepth 100000 in
theorem wOK_writhe {X : zX} (hX : X.1.stackTraces = false) {σ : zS} {x o d mc ms : Nat} {p1 : Int32} {fs : List Value} {Qs : zS → Prop} {v : Int32} {f : Nat → Int64} (hm : zMet X mX9_writhe yX9_writhe d mc ms [.ref x, .int p1] σ (zI (fun r s => r = v ∧ Qs s))) (hx : σ.1 x = .inr (7, fs)) (ho : ∀ σ2, Qs σ2 → σ2.1 o = .inl (3, 1, .inr (.inl f))) : zMetH X mL_writhe yL_writhe (d + 1) mc ms [.ref x, .int p1, .ref o] σ (zI (fun r t => r = 0 ∧ ∃ s, Qs s ∧ t = zup s o (.inl (3, 1, .inr (.inl (vp_updL f 0 v.toInt64)))))) := by
  refine zMetH_of (ls := [some (.ref x), some (.int p1), some (.ref o), none]) (by decide +kernel) rfl rfl hX (Nat.le_of_ble_eq_true rfl) rfl ?_
  refine zr_aload_n dL_writhe_0 rfl ?_
  refine zr_iconst (v := 0) dL_writhe_1 (by decide) ?_
  refine zr_aload_n dL_writhe_2 rfl ?_
  refine zr_iload_n dL_writhe_3 rfl ?_
  refine zr_callVc (rest := [.int 0, .ref o]) dL_writhe_4 vL_58 hm (Nat.le_refl _) (Nat.le_refl _) (Nat.le_refl _) rfl rfl (Nat.le_of_ble_eq_true rfl) hx (by decide) (fun v2 s1 h_ => ?_) (fun E s1 h_ => ?_)
  · obtain ⟨r, e, e2, hQ⟩ := h_
    cases e
    rw [e2]
    have ko := ho s1 hQ
    refine zr_i2l dL_writhe_7 ?_
    refine zr_lastore dL_writhe_8 ko (vp_in_nI (n := 0) (by omega) (by omega)) ?_
    rw [show (0 : Int32).toNatClampNeg = 0 from by decide]
    refine zr_sig (fun ks1 e_ks1 => ?_)
    have kh2 : ks1.1 o = .inl (3, 1, .inr (.inl (vp_updL f 0 ((v).toInt64)))) := by rw [e_ks1]; exact zup_at _ _ _
    refine zr_goto (tgt := 15) dL_writhe_9 (by decide) ?_
    refine zr_iconst (v := 0) dL_writhe_15 (by decide) ?_
    exact zr_ireturn dL_writhe_16 rfl (rfl) (⟨_, rfl, rfl, s1, hQ, by rw [e_ks1]⟩)
  · obtain ⟨r, e, -⟩ := h_
    cases e

set_option maxHeartbeats 400000 in
set_option maxRecDepth 100000 in
theorem wN1_writhe {X : zX} (hX : X.1.stackTraces = false) {σ : zS} {x o d mc ms : Nat} {p1 : Int32} {fs : List Value} {Qs : zS → Prop} (hm : zMet X mX9_writhe yX9_writhe d mc ms [.ref x, .int p1] σ (fun o_ s => o_ = .inr "java/lang/IndexOutOfBoundsException" ∧ Qs s)) (hx : σ.1 x = .inr (7, fs)) : zMetH X mL_writhe yL_writhe (d + 1) mc ms [.ref x, .int p1, .ref o] σ (zI (fun r t => r = 1 ∧ Qs t)) := by
  refine zMetH_of (ls := [some (.ref x), some (.int p1), some (.ref o), none]) (by decide +kernel) rfl rfl hX (Nat.le_of_ble_eq_true rfl) rfl ?_
  refine zr_aload_n dL_writhe_0 rfl ?_
  refine zr_iconst (v := 0) dL_writhe_1 (by decide) ?_
  refine zr_aload_n dL_writhe_2 rfl ?_
  refine zr_iload_n dL_writhe_3 rfl ?_
  refine zr_callVc (rest := [.int 0, .ref o]) dL_writhe_4 vL_58 hm (Nat.le_refl _) (Nat.le_refl _) (Nat.le_refl _) rfl rfl (Nat.le_of_ble_eq_true rfl) hx (by decide) (fun v2 s1 h_ => ?_) (fun E s1 h_ => ?_)
  · obtain ⟨e, -⟩ := h_
    cases e
  · obtain ⟨e, hQ⟩ := h_
    cases e
    refine ⟨12, zHas0 lL_19 (by decide +kernel) rfl (by decide), fun q => ?_⟩
    refine zr_astore_n (ls' := [some (.ref x), some (.int p1), some (.ref o), some (.ref q)]) dL_writhe_12 rfl (by decide) rfl ?_
    refine zr_iconst (v := 1) dL_writhe_13 (by decide) ?_
    exact zr_ireturn dL_writhe_14 rfl (rfl) (⟨_, rfl, rfl, hQ⟩)

set_option maxHeartbeats 400000 in
set_option maxRecDepth 100000 in
theorem wOK_strandEnd {X : zX} (hX : X.1.stackTraces = false) {σ : zS} {x o d mc ms : Nat} {p1 p2 : Int32} {fs : List Value} {Qs : zS → Prop} {v : Int32} {f : Nat → Int64} (hm : zMet X mX9_strandEnd yX9_strandEnd d mc ms [.ref x, .int p1, .int p2] σ (zI (fun r s => r = v ∧ Qs s))) (hx : σ.1 x = .inr (7, fs)) (ho : ∀ σ2, Qs σ2 → σ2.1 o = .inl (3, 1, .inr (.inl f))) : zMetH X mL_strandEnd yL_strandEnd (d + 1) mc ms [.ref x, .int p1, .int p2, .ref o] σ (zI (fun r t => r = 0 ∧ ∃ s, Qs s ∧ t = zup s o (.inl (3, 1, .inr (.inl (vp_updL f 0 v.toInt64)))))) := by
  refine zMetH_of (ls := [some (.ref x), some (.int p1), some (.int p2), some (.ref o), none]) (by decide +kernel) rfl rfl hX (Nat.le_of_ble_eq_true rfl) rfl ?_
  refine zr_aload_n dL_strandEnd_0 rfl ?_
  refine zr_iconst (v := 0) dL_strandEnd_1 (by decide) ?_
  refine zr_aload_n dL_strandEnd_2 rfl ?_
  refine zr_iload_n dL_strandEnd_3 rfl ?_
  refine zr_iload_n dL_strandEnd_4 rfl ?_
  refine zr_callVc (rest := [.int 0, .ref o]) dL_strandEnd_5 vL_61 hm (Nat.le_refl _) (Nat.le_refl _) (Nat.le_refl _) rfl rfl (Nat.le_of_ble_eq_true rfl) hx (by decide) (fun v2 s1 h_ => ?_) (fun E s1 h_ => ?_)
  · obtain ⟨r, e, e2, hQ⟩ := h_
    cases e
    rw [e2]
    have ko := ho s1 hQ
    refine zr_i2l dL_strandEnd_8 ?_
    refine zr_lastore dL_strandEnd_9 ko (vp_in_nI (n := 0) (by omega) (by omega)) ?_
    rw [show (0 : Int32).toNatClampNeg = 0 from by decide]
    refine zr_sig (fun ks1 e_ks1 => ?_)
    have kh2 : ks1.1 o = .inl (3, 1, .inr (.inl (vp_updL f 0 ((v).toInt64)))) := by rw [e_ks1]; exact zup_at _ _ _
    refine zr_goto (tgt := 21) dL_strandEnd_10 (by decide) ?_
    refine zr_iconst (v := 0) dL_strandEnd_21 (by decide) ?_
    exact zr_ireturn dL_strandEnd_22 rfl (rfl) (⟨_, rfl, rfl, s1, hQ, by rw [e_ks1]⟩)
  · obtain ⟨r, e, -⟩ := h_
    cases e

set_option maxHeartbeats 400000 in
set_option maxRecDepth 100000 in
theorem wN1_strandEnd {X : zX} (hX : X.1.stackTraces = false) {σ : zS} {x o d mc ms : Nat} {p1 p2 : Int32} {fs : List Value} {Qs : zS → Prop} (hm : zMet X mX9_strandEnd yX9_strandEnd d mc ms [.ref x, .int p1, .int p2] σ (fun o_ s => o_ = .inr "java/lang/IndexOutOfBoundsException" ∧ Qs s)) (hx : σ.1 x = .inr (7, fs)) : zMetH X mL_strandEnd yL_strandEnd (d + 1) mc ms [.ref x, .int p1, .int p2, .ref o] σ (zI (fun r t => r = 1 ∧ Qs t)) := by
  refine zMetH_of (ls := [some (.ref x), some (.int p1), some (.int p2), some (.ref o), none]) (by decide +kernel) rfl rfl hX (Nat.le_of_ble_eq_true rfl) rfl ?_
  refine zr_aload_n dL_strandEnd_0 rfl ?_
  refine zr_iconst (v := 0) dL_strandEnd_1 (by decide) ?_
  refine zr_aload_n dL_strandEnd_2 rfl ?_
  refine zr_iload_n dL_strandEnd_3 rfl ?_
  refine zr_iload_n dL_strandEnd_4 rfl ?_
  refine zr_callVc (rest := [.int 0, .ref o]) dL_strandEnd_5 vL_61 hm (Nat.le_refl _) (Nat.le_refl _) (Nat.le_refl _) rfl rfl (Nat.le_of_ble_eq_true rfl) hx (by decide) (fun v2 s1 h_ => ?_) (fun E s1 h_ => ?_)
  · obtain ⟨e, -⟩ := h_
    cases e
  · obtain ⟨e, hQ⟩ := h_
    cases e
    refine ⟨13, zHas0 lL_19 (by decide +kernel) rfl (by decide), fun q => ?_⟩
    refine zr_astore (ls' := [some (.ref x), some (.int p1), some (.int p2), some (.ref o), some (.ref q)]) dL_strandEnd_13 (by decide) rfl ?_
    refine zr_iconst (v := 1) dL_strandEnd_15 (by decide) ?_
    exact zr_ireturn dL_strandEnd_16 rfl (rfl) (⟨_, rfl, rfl, hQ⟩)

set_option maxHeartbeats 400000 in
set_option maxRecDepth 100000 in
theorem wN2_strandEnd {X : zX} (hX : X.1.stackTraces = false) {σ : zS} {x o d mc ms : Nat} {p1 p2 : Int32} {fs : List Value} {Qs : zS → Prop} (hm : zMet X mX9_strandEnd yX9_strandEnd d mc ms [.ref x, .int p1, .int p2] σ (fun o_ s => o_ = .inr "java/lang/IllegalArgumentException" ∧ Qs s)) (hx : σ.1 x = .inr (7, fs)) : zMetH X mL_strandEnd yL_strandEnd (d + 1) mc ms [.ref x, .int p1, .int p2, .ref o] σ (zI (fun r t => r = 2 ∧ Qs t)) := by
  refine zMetH_of (ls := [some (.ref x), some (.int p1), some (.int p2), some (.ref o), none]) (by decide +kernel) rfl rfl hX (Nat.le_of_ble_eq_true rfl) rfl ?_
  refine zr_aload_n dL_strandEnd_0 rfl ?_
  refine zr_iconst (v := 0) dL_strandEnd_1 (by decide) ?_
  refine zr_aload_n dL_strandEnd_2 rfl ?_
  refine zr_iload_n dL_strandEnd_3 rfl ?_
  refine zr_iload_n dL_strandEnd_4 rfl ?_
  refine zr_callVc (rest := [.int 0, .ref o]) dL_strandEnd_5 vL_61 hm (Nat.le_refl _) (Nat.le_refl _) (Nat.le_refl _) rfl rfl (Nat.le_of_ble_eq_true rfl) hx (by decide) (fun v2 s1 h_ => ?_) (fun E s1 h_ => ?_)
  · obtain ⟨e, -⟩ := h_
    cases e
  · obtain ⟨e, hQ⟩ := h_
    cases e
    refine ⟨17, zHasS lL_19 (by decide +kernel) (by decide) (zHas0 lL_21 (by decide +kernel) rfl (by decide)), fun q => ?_⟩
    refine zr_astore (ls' := [some (.ref x), some (.int p1), some (.int p2), some (.ref o), some (.ref q)]) dL_strandEnd_17 (by decide) rfl ?_
    refine zr_iconst (v := 2) dL_strandEnd_19 (by decide) ?_
    exact zr_ireturn dL_strandEnd_20 rfl (rfl) (⟨_, rfl, rfl, hQ⟩)

set_option maxHeartbeats 400000 in
set_option maxRecDepth 100000 in
theorem wOK_closedThreads {X : zX} (hX : X.1.stackTraces = false) {σ : zS} {x o d mc ms : Nat} {p1 : Int32} {fs : List Value} {Qs : zS → Prop} {v : Int32} {f : Nat → Int64} (hm : zMet X mX9_closedThreads yX9_closedThreads d mc ms [.ref x, .int p1] σ (zI (fun r s => r = v ∧ Qs s))) (hx : σ.1 x = .inr (7, fs)) (ho : ∀ σ2, Qs σ2 → σ2.1 o = .inl (3, 1, .inr (.inl f))) : zMetH X mL_closedThreads yL_closedThreads (d + 1) mc ms [.ref x, .int p1, .ref o] σ (zI (fun r t => r = 0 ∧ ∃ s, Qs s ∧ t = zup s o (.inl (3, 1, .inr (.inl (vp_updL f 0 v.toInt64)))))) := by
  refine zMetH_of (ls := [some (.ref x), some (.int p1), some (.ref o), none]) (by decide +kernel) rfl rfl hX (Nat.le_of_ble_eq_true rfl) rfl ?_
  refine zr_aload_n dL_closedThreads_0 rfl ?_
  refine zr_iconst (v := 0) dL_closedThreads_1 (by decide) ?_
  refine zr_aload_n dL_closedThreads_2 rfl ?_
  refine zr_iload_n dL_closedThreads_3 rfl ?_
  refine zr_callVc (rest := [.int 0, .ref o]) dL_closedThreads_4 vL_65 hm (Nat.le_refl _) (Nat.le_refl _) (Nat.le_refl _) rfl rfl (Nat.le_of_ble_eq_true rfl) hx (by decide) (fun v2 s1 h_ => ?_) (fun E s1 h_ => ?_)
  · obtain ⟨r, e, e2, hQ⟩ := h_
    cases e
    rw [e2]
    have ko := ho s1 hQ
    refine zr_i2l dL_closedThreads_7 ?_
    refine zr_lastore dL_closedThreads_8 ko (vp_in_nI (n := 0) (by omega) (by omega)) ?_
    rw [show (0 : Int32).toNatClampNeg = 0 from by decide]
    refine zr_sig (fun ks1 e_ks1 => ?_)
    have kh2 : ks1.1 o = .inl (3, 1, .inr (.inl (vp_updL f 0 ((v).toInt64)))) := by rw [e_ks1]; exact zup_at _ _ _
    refine zr_goto (tgt := 15) dL_closedThreads_9 (by decide) ?_
    refine zr_iconst (v := 0) dL_closedThreads_15 (by decide) ?_
    exact zr_ireturn dL_closedThreads_16 rfl (rfl) (⟨_, rfl, rfl, s1, hQ, by rw [e_ks1]⟩)
  · obtain ⟨r, e, -⟩ := h_
    cases e

set_option maxHeartbeats 400000 in
set_option maxRecDepth 100000 in
theorem wN1_closedThreads {X : zX} (hX : X.1.stackTraces = false) {σ : zS} {x o d mc ms : Nat} {p1 : Int32} {fs : List Value} {Qs : zS → Prop} (hm : zMet X mX9_closedThreads yX9_closedThreads d mc ms [.ref x, .int p1] σ (fun o_ s => o_ = .inr "java/lang/IndexOutOfBoundsException" ∧ Qs s)) (hx : σ.1 x = .inr (7, fs)) : zMetH X mL_closedThreads yL_closedThreads (d + 1) mc ms [.ref x, .int p1, .ref o] σ (zI (fun r t => r = 1 ∧ Qs t)) := by
  refine zMetH_of (ls := [some (.ref x), some (.int p1), some (.ref o), none]) (by decide +kernel) rfl rfl hX (Nat.le_of_ble_eq_true rfl) rfl ?_
  refine zr_aload_n dL_closedThreads_0 rfl ?_
  refine zr_iconst (v := 0) dL_closedThreads_1 (by decide) ?_
  refine zr_aload_n dL_closedThreads_2 rfl ?_
  refine zr_iload_n dL_closedThreads_3 rfl ?_
  refine zr_callVc (rest := [.int 0, .ref o]) dL_closedThreads_4 vL_65 hm (Nat.le_refl _) (Nat.le_refl _) (Nat.le_refl _) rfl rfl (Nat.le_of_ble_eq_true rfl) hx (by decide) (fun v2 s1 h_ => ?_) (fun E s1 h_ => ?_)
  · obtain ⟨e, -⟩ := h_
    cases e
  · obtain ⟨e, hQ⟩ := h_
    cases e
    refine ⟨12, zHas0 lL_19 (by decide +kernel) rfl (by decide), fun q => ?_⟩
    refine zr_astore_n (ls' := [some (.ref x), some (.int p1), some (.ref o), some (.ref q)]) dL_closedThreads_12 rfl (by decide) rfl ?_
    refine zr_iconst (v := 1) dL_closedThreads_13 (by decide) ?_
    exact zr_ireturn dL_closedThreads_14 rfl (rfl) (⟨_, rfl, rfl, hQ⟩)

set_option maxHeartbeats 400000 in
set_option maxRecDepth 100000 in
theorem wOK_crossings {X : zX} (hX : X.1.stackTraces = false) {σ : zS} {x o d mc ms : Nat} {p1 p2 p3 : Int32} {fs : List Value} {Qs : zS → Prop} {v : Int32} {f : Nat → Int64} (hm : zMet X mX9_crossings yX9_crossings d mc ms [.ref x, .int p1, .int p2, .int p3] σ (zI (fun r s => r = v ∧ Qs s))) (hx : σ.1 x = .inr (7, fs)) (ho : ∀ σ2, Qs σ2 → σ2.1 o = .inl (3, 1, .inr (.inl f))) : zMetH X mL_crossings yL_crossings (d + 1) mc ms [.ref x, .int p1, .int p2, .int p3, .ref o] σ (zI (fun r t => r = 0 ∧ ∃ s, Qs s ∧ t = zup s o (.inl (3, 1, .inr (.inl (vp_updL f 0 v.toInt64)))))) := by
  refine zMetH_of (ls := [some (.ref x), some (.int p1), some (.int p2), some (.int p3), some (.ref o), none]) (by decide +kernel) rfl rfl hX (Nat.le_of_ble_eq_true rfl) rfl ?_
  refine zr_aload dL_crossings_0 rfl ?_
  refine zr_iconst (v := 0) dL_crossings_2 (by decide) ?_
  refine zr_aload_n dL_crossings_3 rfl ?_
  refine zr_iload_n dL_crossings_4 rfl ?_
  refine zr_iload_n dL_crossings_5 rfl ?_
  refine zr_iload_n dL_crossings_6 rfl ?_
  refine zr_callVc (rest := [.int 0, .ref o]) dL_crossings_7 vL_68 hm (Nat.le_refl _) (Nat.le_refl _) (Nat.le_refl _) rfl rfl (Nat.le_of_ble_eq_true rfl) hx (by decide) (fun v2 s1 h_ => ?_) (fun E s1 h_ => ?_)
  · obtain ⟨r, e, e2, hQ⟩ := h_
    cases e
    rw [e2]
    have ko := ho s1 hQ
    refine zr_i2l dL_crossings_10 ?_
    refine zr_lastore dL_crossings_11 ko (vp_in_nI (n := 0) (by omega) (by omega)) ?_
    rw [show (0 : Int32).toNatClampNeg = 0 from by decide]
    refine zr_sig (fun ks1 e_ks1 => ?_)
    have kh2 : ks1.1 o = .inl (3, 1, .inr (.inl (vp_updL f 0 ((v).toInt64)))) := by rw [e_ks1]; exact zup_at _ _ _
    refine zr_goto (tgt := 23) dL_crossings_12 (by decide) ?_
    refine zr_iconst (v := 0) dL_crossings_23 (by decide) ?_
    exact zr_ireturn dL_crossings_24 rfl (rfl) (⟨_, rfl, rfl, s1, hQ, by rw [e_ks1]⟩)
  · obtain ⟨r, e, -⟩ := h_
    cases e

set_option maxHeartbeats 400000 in
set_option maxRecDepth 100000 in
theorem wN1_crossings {X : zX} (hX : X.1.stackTraces = false) {σ : zS} {x o d mc ms : Nat} {p1 p2 p3 : Int32} {fs : List Value} {Qs : zS → Prop} (hm : zMet X mX9_crossings yX9_crossings d mc ms [.ref x, .int p1, .int p2, .int p3] σ (fun o_ s => o_ = .inr "java/lang/IndexOutOfBoundsException" ∧ Qs s)) (hx : σ.1 x = .inr (7, fs)) : zMetH X mL_crossings yL_crossings (d + 1) mc ms [.ref x, .int p1, .int p2, .int p3, .ref o] σ (zI (fun r t => r = 1 ∧ Qs t)) := by
  refine zMetH_of (ls := [some (.ref x), some (.int p1), some (.int p2), some (.int p3), some (.ref o), none]) (by decide +kernel) rfl rfl hX (Nat.le_of_ble_eq_true rfl) rfl ?_
  refine zr_aload dL_crossings_0 rfl ?_
  refine zr_iconst (v := 0) dL_crossings_2 (by decide) ?_
  refine zr_aload_n dL_crossings_3 rfl ?_
  refine zr_iload_n dL_crossings_4 rfl ?_
  refine zr_iload_n dL_crossings_5 rfl ?_
  refine zr_iload_n dL_crossings_6 rfl ?_
  refine zr_callVc (rest := [.int 0, .ref o]) dL_crossings_7 vL_68 hm (Nat.le_refl _) (Nat.le_refl _) (Nat.le_refl _) rfl rfl (Nat.le_of_ble_eq_true rfl) hx (by decide) (fun v2 s1 h_ => ?_) (fun E s1 h_ => ?_)
  · obtain ⟨e, -⟩ := h_
    cases e
  · obtain ⟨e, hQ⟩ := h_
    cases e
    refine ⟨15, zHas0 lL_19 (by decide +kernel) rfl (by decide), fun q => ?_⟩
    refine zr_astore (ls' := [some (.ref x), some (.int p1), some (.int p2), some (.int p3), some (.ref o), some (.ref q)]) dL_crossings_15 (by decide) rfl ?_
    refine zr_iconst (v := 1) dL_crossings_17 (by decide) ?_
    exact zr_ireturn dL_crossings_18 rfl (rfl) (⟨_, rfl, rfl, hQ⟩)

set_option maxHeartbeats 400000 in
set_option maxRecDepth 100000 in
theorem wN2_crossings {X : zX} (hX : X.1.stackTraces = false) {σ : zS} {x o d mc ms : Nat} {p1 p2 p3 : Int32} {fs : List Value} {Qs : zS → Prop} (hm : zMet X mX9_crossings yX9_crossings d mc ms [.ref x, .int p1, .int p2, .int p3] σ (fun o_ s => o_ = .inr "java/lang/IllegalArgumentException" ∧ Qs s)) (hx : σ.1 x = .inr (7, fs)) : zMetH X mL_crossings yL_crossings (d + 1) mc ms [.ref x, .int p1, .int p2, .int p3, .ref o] σ (zI (fun r t => r = 2 ∧ Qs t)) := by
  refine zMetH_of (ls := [some (.ref x), some (.int p1), some (.int p2), some (.int p3), some (.ref o), none]) (by decide +kernel) rfl rfl hX (Nat.le_of_ble_eq_true rfl) rfl ?_
  refine zr_aload dL_crossings_0 rfl ?_
  refine zr_iconst (v := 0) dL_crossings_2 (by decide) ?_
  refine zr_aload_n dL_crossings_3 rfl ?_
  refine zr_iload_n dL_crossings_4 rfl ?_
  refine zr_iload_n dL_crossings_5 rfl ?_
  refine zr_iload_n dL_crossings_6 rfl ?_
  refine zr_callVc (rest := [.int 0, .ref o]) dL_crossings_7 vL_68 hm (Nat.le_refl _) (Nat.le_refl _) (Nat.le_refl _) rfl rfl (Nat.le_of_ble_eq_true rfl) hx (by decide) (fun v2 s1 h_ => ?_) (fun E s1 h_ => ?_)
  · obtain ⟨e, -⟩ := h_
    cases e
  · obtain ⟨e, hQ⟩ := h_
    cases e
    refine ⟨19, zHasS lL_19 (by decide +kernel) (by decide) (zHas0 lL_21 (by decide +kernel) rfl (by decide)), fun q => ?_⟩
    refine zr_astore (ls' := [some (.ref x), some (.int p1), some (.int p2), some (.int p3), some (.ref o), some (.ref q)]) dL_crossings_19 (by decide) rfl ?_
    refine zr_iconst (v := 2) dL_crossings_21 (by decide) ?_
    exact zr_ireturn dL_crossings_22 rfl (rfl) (⟨_, rfl, rfl, hQ⟩)

set_option maxHeartbeats 400000 in
set_option maxRecDepth 100000 in
theorem wOK_coordinate {X : zX} (hX : X.1.stackTraces = false) {σ : zS} {x o d mc ms : Nat} {p1 p2 : Int32} {fs : List Value} {Qs : zS → Prop} {v : Int64} {f : Nat → Int64} (hm : zMet X mX9_coordinate yX9_coordinate d mc ms [.ref x, .int p1, .int p2] σ (zJ (fun r s => r = v ∧ Qs s))) (hx : σ.1 x = .inr (7, fs)) (ho : ∀ σ2, Qs σ2 → σ2.1 o = .inl (3, 1, .inr (.inl f))) : zMetH X mL_coordinate yL_coordinate (d + 1) mc ms [.ref x, .int p1, .int p2, .ref o] σ (zI (fun r t => r = 0 ∧ ∃ s, Qs s ∧ t = zup s o (.inl (3, 1, .inr (.inl (vp_updL f 0 v)))))) := by
  refine zMetH_of (ls := [some (.ref x), some (.int p1), some (.int p2), some (.ref o), none]) (by decide +kernel) rfl rfl hX (Nat.le_of_ble_eq_true rfl) rfl ?_
  refine zr_aload_n dL_coordinate_0 rfl ?_
  refine zr_iconst (v := 0) dL_coordinate_1 (by decide) ?_
  refine zr_aload_n dL_coordinate_2 rfl ?_
  refine zr_iload_n dL_coordinate_3 rfl ?_
  refine zr_iload_n dL_coordinate_4 rfl ?_
  refine zr_callVc (rest := [.int 0, .ref o]) dL_coordinate_5 vL_72 hm (Nat.le_refl _) (Nat.le_refl _) (Nat.le_refl _) rfl rfl (Nat.le_of_ble_eq_true rfl) hx (by decide) (fun v2 s1 h_ => ?_) (fun E s1 h_ => ?_)
  · obtain ⟨r, e, e2, hQ⟩ := h_
    cases e
    rw [e2]
    have ko := ho s1 hQ
    refine zr_lastore dL_coordinate_8 ko (vp_in_nI (n := 0) (by omega) (by omega)) ?_
    rw [show (0 : Int32).toNatClampNeg = 0 from by decide]
    refine zr_sig (fun ks1 e_ks1 => ?_)
    have kh2 : ks1.1 o = .inl (3, 1, .inr (.inl (vp_updL f 0 v))) := by rw [e_ks1]; exact zup_at _ _ _
    refine zr_goto (tgt := 20) dL_coordinate_9 (by decide) ?_
    refine zr_iconst (v := 0) dL_coordinate_20 (by decide) ?_
    exact zr_ireturn dL_coordinate_21 rfl (rfl) (⟨_, rfl, rfl, s1, hQ, by rw [e_ks1]⟩)
  · obtain ⟨r, e, -⟩ := h_
    cases e

set_option maxHeartbeats 400000 in
set_option maxRecDepth 100000 in
theorem wN1_coordinate {X : zX} (hX : X.1.stackTraces = false) {σ : zS} {x o d mc ms : Nat} {p1 p2 : Int32} {fs : List Value} {Qs : zS → Prop} (hm : zMet X mX9_coordinate yX9_coordinate d mc ms [.ref x, .int p1, .int p2] σ (fun o_ s => o_ = .inr "java/lang/IndexOutOfBoundsException" ∧ Qs s)) (hx : σ.1 x = .inr (7, fs)) : zMetH X mL_coordinate yL_coordinate (d + 1) mc ms [.ref x, .int p1, .int p2, .ref o] σ (zI (fun r t => r = 1 ∧ Qs t)) := by
  refine zMetH_of (ls := [some (.ref x), some (.int p1), some (.int p2), some (.ref o), none]) (by decide +kernel) rfl rfl hX (Nat.le_of_ble_eq_true rfl) rfl ?_
  refine zr_aload_n dL_coordinate_0 rfl ?_
  refine zr_iconst (v := 0) dL_coordinate_1 (by decide) ?_
  refine zr_aload_n dL_coordinate_2 rfl ?_
  refine zr_iload_n dL_coordinate_3 rfl ?_
  refine zr_iload_n dL_coordinate_4 rfl ?_
  refine zr_callVc (rest := [.int 0, .ref o]) dL_coordinate_5 vL_72 hm (Nat.le_refl _) (Nat.le_refl _) (Nat.le_refl _) rfl rfl (Nat.le_of_ble_eq_true rfl) hx (by decide) (fun v2 s1 h_ => ?_) (fun E s1 h_ => ?_)
  · obtain ⟨e, -⟩ := h_
    cases e
  · obtain ⟨e, hQ⟩ := h_
    cases e
    refine ⟨12, zHas0 lL_19 (by decide +kernel) rfl (by decide), fun q => ?_⟩
    refine zr_astore (ls' := [some (.ref x), some (.int p1), some (.int p2), some (.ref o), some (.ref q)]) dL_coordinate_12 (by decide) rfl ?_
    refine zr_iconst (v := 1) dL_coordinate_14 (by decide) ?_
    exact zr_ireturn dL_coordinate_15 rfl (rfl) (⟨_, rfl, rfl, hQ⟩)

set_option maxHeartbeats 400000 in
set_option maxRecDepth 100000 in
theorem wN2_coordinate {X : zX} (hX : X.1.stackTraces = false) {σ : zS} {x o d mc ms : Nat} {p1 p2 : Int32} {fs : List Value} {Qs : zS → Prop} (hm : zMet X mX9_coordinate yX9_coordinate d mc ms [.ref x, .int p1, .int p2] σ (fun o_ s => o_ = .inr "java/lang/IllegalArgumentException" ∧ Qs s)) (hx : σ.1 x = .inr (7, fs)) : zMetH X mL_coordinate yL_coordinate (d + 1) mc ms [.ref x, .int p1, .int p2, .ref o] σ (zI (fun r t => r = 2 ∧ Qs t)) := by
  refine zMetH_of (ls := [some (.ref x), some (.int p1), some (.int p2), some (.ref o), none]) (by decide +kernel) rfl rfl hX (Nat.le_of_ble_eq_true rfl) rfl ?_
  refine zr_aload_n dL_coordinate_0 rfl ?_
  refine zr_iconst (v := 0) dL_coordinate_1 (by decide) ?_
  refine zr_aload_n dL_coordinate_2 rfl ?_
  refine zr_iload_n dL_coordinate_3 rfl ?_
  refine zr_iload_n dL_coordinate_4 rfl ?_
  refine zr_callVc (rest := [.int 0, .ref o]) dL_coordinate_5 vL_72 hm (Nat.le_refl _) (Nat.le_refl _) (Nat.le_refl _) rfl rfl (Nat.le_of_ble_eq_true rfl) hx (by decide) (fun v2 s1 h_ => ?_) (fun E s1 h_ => ?_)
  · obtain ⟨e, -⟩ := h_
    cases e
  · obtain ⟨e, hQ⟩ := h_
    cases e
    refine ⟨16, zHasS lL_19 (by decide +kernel) (by decide) (zHas0 lL_21 (by decide +kernel) rfl (by decide)), fun q => ?_⟩
    refine zr_astore (ls' := [some (.ref x), some (.int p1), some (.int p2), some (.ref o), some (.ref q)]) dL_coordinate_16 (by decide) rfl ?_
    refine zr_iconst (v := 2) dL_coordinate_18 (by decide) ?_
    exact zr_ireturn dL_coordinate_19 rfl (rfl) (⟨_, rfl, rfl, hQ⟩)

set_option maxHeartbeats 400000 in
set_option maxRecDepth 100000 in
theorem wOK_isTrivial {X : zX} (hX : X.1.stackTraces = false) {σ : zS} {x o d mc ms : Nat} {p1 : Int32} {fs : List Value} {Qs : zS → Prop} {v : Int32} {f : Nat → Int64} (hm : zMet X mX9_isTrivial yX9_isTrivial d mc ms [.ref x, .int p1] σ (zI (fun r s => r = v ∧ Qs s))) (hx : σ.1 x = .inr (7, fs)) (ho : ∀ σ2, Qs σ2 → σ2.1 o = .inl (3, 1, .inr (.inl f))) : zMetH X mL_isTrivial yL_isTrivial (d + 1) mc ms [.ref x, .int p1, .ref o] σ (zI (fun r t => r = 0 ∧ ∃ s, Qs s ∧ t = zup s o (.inl (3, 1, .inr (.inl (vp_updL f 0 (if v = 0 then 0 else 1))))))) := by
  refine zMetH_of (ls := [some (.ref x), some (.int p1), some (.ref o), none]) (by decide +kernel) rfl rfl hX (Nat.le_of_ble_eq_true rfl) rfl ?_
  refine zr_aload_n dL_isTrivial_0 rfl ?_
  refine zr_iconst (v := 0) dL_isTrivial_1 (by decide) ?_
  refine zr_aload_n dL_isTrivial_2 rfl ?_
  refine zr_iload_n dL_isTrivial_3 rfl ?_
  refine zr_callVc (rest := [.int 0, .ref o]) dL_isTrivial_4 vL_76 hm (Nat.le_refl _) (Nat.le_refl _) (Nat.le_refl _) rfl rfl (Nat.le_of_ble_eq_true rfl) hx (by decide) (fun v2 s1 h_ => ?_) (fun E s1 h_ => ?_)
  · obtain ⟨r, e, e2, hQ⟩ := h_
    cases e
    rw [e2]
    have ko := ho s1 hQ
    refine zr_if_eq (tgt := 14) dL_isTrivial_7 (by decide) (fun c_7 => ?_) (fun c_7 => ?_)
    · refine zr_lconst (v := 0) dL_isTrivial_14 (by decide) ?_
      refine zr_lastore dL_isTrivial_15 ko (vp_in_nI (n := 0) (by omega) (by omega)) ?_
      rw [show (0 : Int32).toNatClampNeg = 0 from by decide]
      refine zr_sig (fun ks1 e_ks1 => ?_)
      have kh2 : ks1.1 o = .inl (3, 1, .inr (.inl (vp_updL f 0 0))) := by rw [e_ks1]; exact zup_at _ _ _
      refine zr_goto (tgt := 25) dL_isTrivial_16 (by decide) ?_
      refine zr_iconst (v := 0) dL_isTrivial_25 (by decide) ?_
      exact zr_ireturn dL_isTrivial_26 rfl (rfl) (⟨_, rfl, rfl, s1, hQ, by rw [e_ks1, if_pos c_7]⟩)
    · refine zr_lconst (v := 1) dL_isTrivial_10 (by decide) ?_
      refine zr_goto (tgt := 15) dL_isTrivial_11 (by decide) ?_
      refine zr_lastore dL_isTrivial_15 ko (vp_in_nI (n := 0) (by omega) (by omega)) ?_
      rw [show (0 : Int32).toNatClampNeg = 0 from by decide]
      refine zr_sig (fun ks3 e_ks3 => ?_)
      have kh4 : ks3.1 o = .inl (3, 1, .inr (.inl (vp_updL f 0 1))) := by rw [e_ks3]; exact zup_at _ _ _
      refine zr_goto (tgt := 25) dL_isTrivial_16 (by decide) ?_
      refine zr_iconst (v := 0) dL_isTrivial_25 (by decide) ?_
      exact zr_ireturn dL_isTrivial_26 rfl (rfl) (⟨_, rfl, rfl, s1, hQ, by rw [e_ks3, if_neg c_7]⟩)
  · obtain ⟨r, e, -⟩ := h_
    cases e

set_option maxHeartbeats 400000 in
set_option maxRecDepth 100000 in
theorem wN1_isTrivial {X : zX} (hX : X.1.stackTraces = false) {σ : zS} {x o d mc ms : Nat} {p1 : Int32} {fs : List Value} {Qs : zS → Prop} (hm : zMet X mX9_isTrivial yX9_isTrivial d mc ms [.ref x, .int p1] σ (fun o_ s => o_ = .inr "java/lang/IndexOutOfBoundsException" ∧ Qs s)) (hx : σ.1 x = .inr (7, fs)) : zMetH X mL_isTrivial yL_isTrivial (d + 1) mc ms [.ref x, .int p1, .ref o] σ (zI (fun r t => r = 1 ∧ Qs t)) := by
  refine zMetH_of (ls := [some (.ref x), some (.int p1), some (.ref o), none]) (by decide +kernel) rfl rfl hX (Nat.le_of_ble_eq_true rfl) rfl ?_
  refine zr_aload_n dL_isTrivial_0 rfl ?_
  refine zr_iconst (v := 0) dL_isTrivial_1 (by decide) ?_
  refine zr_aload_n dL_isTrivial_2 rfl ?_
  refine zr_iload_n dL_isTrivial_3 rfl ?_
  refine zr_callVc (rest := [.int 0, .ref o]) dL_isTrivial_4 vL_76 hm (Nat.le_refl _) (Nat.le_refl _) (Nat.le_refl _) rfl rfl (Nat.le_of_ble_eq_true rfl) hx (by decide) (fun v2 s1 h_ => ?_) (fun E s1 h_ => ?_)
  · obtain ⟨e, -⟩ := h_
    cases e
  · obtain ⟨e, hQ⟩ := h_
    cases e
    refine ⟨19, zHas0 lL_19 (by decide +kernel) rfl (by decide), fun q => ?_⟩
    refine zr_astore_n (ls' := [some (.ref x), some (.int p1), some (.ref o), some (.ref q)]) dL_isTrivial_19 rfl (by decide) rfl ?_
    refine zr_iconst (v := 1) dL_isTrivial_20 (by decide) ?_
    exact zr_ireturn dL_isTrivial_21 rfl (rfl) (⟨_, rfl, rfl, hQ⟩)

set_option maxHeartbeats 400000 in
set_option maxRecDepth 100000 in
theorem wN2_isTrivial {X : zX} (hX : X.1.stackTraces = false) {σ : zS} {x o d mc ms : Nat} {p1 : Int32} {fs : List Value} {Qs : zS → Prop} (hm : zMet X mX9_isTrivial yX9_isTrivial d mc ms [.ref x, .int p1] σ (fun o_ s => o_ = .inr "java/lang/IllegalStateException" ∧ Qs s)) (hx : σ.1 x = .inr (7, fs)) : zMetH X mL_isTrivial yL_isTrivial (d + 1) mc ms [.ref x, .int p1, .ref o] σ (zI (fun r t => r = 2 ∧ Qs t)) := by
  refine zMetH_of (ls := [some (.ref x), some (.int p1), some (.ref o), none]) (by decide +kernel) rfl rfl hX (Nat.le_of_ble_eq_true rfl) rfl ?_
  refine zr_aload_n dL_isTrivial_0 rfl ?_
  refine zr_iconst (v := 0) dL_isTrivial_1 (by decide) ?_
  refine zr_aload_n dL_isTrivial_2 rfl ?_
  refine zr_iload_n dL_isTrivial_3 rfl ?_
  refine zr_callVc (rest := [.int 0, .ref o]) dL_isTrivial_4 vL_76 hm (Nat.le_refl _) (Nat.le_refl _) (Nat.le_refl _) rfl rfl (Nat.le_of_ble_eq_true rfl) hx (by decide) (fun v2 s1 h_ => ?_) (fun E s1 h_ => ?_)
  · obtain ⟨e, -⟩ := h_
    cases e
  · obtain ⟨e, hQ⟩ := h_
    cases e
    refine ⟨22, zHasS lL_19 (by decide +kernel) (by decide) (zHas0 lL_56 (by decide +kernel) rfl (by decide)), fun q => ?_⟩
    refine zr_astore_n (ls' := [some (.ref x), some (.int p1), some (.ref o), some (.ref q)]) dL_isTrivial_22 rfl (by decide) rfl ?_
    refine zr_iconst (v := 2) dL_isTrivial_23 (by decide) ?_
    exact zr_ireturn dL_isTrivial_24 rfl (rfl) (⟨_, rfl, rfl, hQ⟩)

set_option maxHeartbeats 400000 in
set_option maxRecDepth 100000 in
theorem wOK_areEqual {X : zX} (hX : X.1.stackTraces = false) {σ : zS} {x o d mc ms : Nat} {p1 p2 : Int32} {fs : List Value} {Qs : zS → Prop} {v : Int32} {f : Nat → Int64} (hm : zMet X mX9_areEqual yX9_areEqual d mc ms [.ref x, .int p1, .int p2] σ (zI (fun r s => r = v ∧ Qs s))) (hx : σ.1 x = .inr (7, fs)) (ho : ∀ σ2, Qs σ2 → σ2.1 o = .inl (3, 1, .inr (.inl f))) : zMetH X mL_areEqual yL_areEqual (d + 1) mc ms [.ref x, .int p1, .int p2, .ref o] σ (zI (fun r t => r = 0 ∧ ∃ s, Qs s ∧ t = zup s o (.inl (3, 1, .inr (.inl (vp_updL f 0 (if v = 0 then 0 else 1))))))) := by
  refine zMetH_of (ls := [some (.ref x), some (.int p1), some (.int p2), some (.ref o), none]) (by decide +kernel) rfl rfl hX (Nat.le_of_ble_eq_true rfl) rfl ?_
  refine zr_aload_n dL_areEqual_0 rfl ?_
  refine zr_iconst (v := 0) dL_areEqual_1 (by decide) ?_
  refine zr_aload_n dL_areEqual_2 rfl ?_
  refine zr_iload_n dL_areEqual_3 rfl ?_
  refine zr_iload_n dL_areEqual_4 rfl ?_
  refine zr_callVc (rest := [.int 0, .ref o]) dL_areEqual_5 vL_79 hm (Nat.le_refl _) (Nat.le_refl _) (Nat.le_refl _) rfl rfl (Nat.le_of_ble_eq_true rfl) hx (by decide) (fun v2 s1 h_ => ?_) (fun E s1 h_ => ?_)
  · obtain ⟨r, e, e2, hQ⟩ := h_
    cases e
    rw [e2]
    have ko := ho s1 hQ
    refine zr_if_eq (tgt := 15) dL_areEqual_8 (by decide) (fun c_8 => ?_) (fun c_8 => ?_)
    · refine zr_lconst (v := 0) dL_areEqual_15 (by decide) ?_
      refine zr_lastore dL_areEqual_16 ko (vp_in_nI (n := 0) (by omega) (by omega)) ?_
      rw [show (0 : Int32).toNatClampNeg = 0 from by decide]
      refine zr_sig (fun ks1 e_ks1 => ?_)
      have kh2 : ks1.1 o = .inl (3, 1, .inr (.inl (vp_updL f 0 0))) := by rw [e_ks1]; exact zup_at _ _ _
      refine zr_goto (tgt := 28) dL_areEqual_17 (by decide) ?_
      refine zr_iconst (v := 0) dL_areEqual_28 (by decide) ?_
      exact zr_ireturn dL_areEqual_29 rfl (rfl) (⟨_, rfl, rfl, s1, hQ, by rw [e_ks1, if_pos c_8]⟩)
    · refine zr_lconst (v := 1) dL_areEqual_11 (by decide) ?_
      refine zr_goto (tgt := 16) dL_areEqual_12 (by decide) ?_
      refine zr_lastore dL_areEqual_16 ko (vp_in_nI (n := 0) (by omega) (by omega)) ?_
      rw [show (0 : Int32).toNatClampNeg = 0 from by decide]
      refine zr_sig (fun ks3 e_ks3 => ?_)
      have kh4 : ks3.1 o = .inl (3, 1, .inr (.inl (vp_updL f 0 1))) := by rw [e_ks3]; exact zup_at _ _ _
      refine zr_goto (tgt := 28) dL_areEqual_17 (by decide) ?_
      refine zr_iconst (v := 0) dL_areEqual_28 (by decide) ?_
      exact zr_ireturn dL_areEqual_29 rfl (rfl) (⟨_, rfl, rfl, s1, hQ, by rw [e_ks3, if_neg c_8]⟩)
  · obtain ⟨r, e, -⟩ := h_
    cases e

set_option maxHeartbeats 400000 in
set_option maxRecDepth 100000 in
theorem wN1_areEqual {X : zX} (hX : X.1.stackTraces = false) {σ : zS} {x o d mc ms : Nat} {p1 p2 : Int32} {fs : List Value} {Qs : zS → Prop} (hm : zMet X mX9_areEqual yX9_areEqual d mc ms [.ref x, .int p1, .int p2] σ (fun o_ s => o_ = .inr "java/lang/IndexOutOfBoundsException" ∧ Qs s)) (hx : σ.1 x = .inr (7, fs)) : zMetH X mL_areEqual yL_areEqual (d + 1) mc ms [.ref x, .int p1, .int p2, .ref o] σ (zI (fun r t => r = 1 ∧ Qs t)) := by
  refine zMetH_of (ls := [some (.ref x), some (.int p1), some (.int p2), some (.ref o), none]) (by decide +kernel) rfl rfl hX (Nat.le_of_ble_eq_true rfl) rfl ?_
  refine zr_aload_n dL_areEqual_0 rfl ?_
  refine zr_iconst (v := 0) dL_areEqual_1 (by decide) ?_
  refine zr_aload_n dL_areEqual_2 rfl ?_
  refine zr_iload_n dL_areEqual_3 rfl ?_
  refine zr_iload_n dL_areEqual_4 rfl ?_
  refine zr_callVc (rest := [.int 0, .ref o]) dL_areEqual_5 vL_79 hm (Nat.le_refl _) (Nat.le_refl _) (Nat.le_refl _) rfl rfl (Nat.le_of_ble_eq_true rfl) hx (by decide) (fun v2 s1 h_ => ?_) (fun E s1 h_ => ?_)
  · obtain ⟨e, -⟩ := h_
    cases e
  · obtain ⟨e, hQ⟩ := h_
    cases e
    refine ⟨20, zHas0 lL_19 (by decide +kernel) rfl (by decide), fun q => ?_⟩
    refine zr_astore (ls' := [some (.ref x), some (.int p1), some (.int p2), some (.ref o), some (.ref q)]) dL_areEqual_20 (by decide) rfl ?_
    refine zr_iconst (v := 1) dL_areEqual_22 (by decide) ?_
    exact zr_ireturn dL_areEqual_23 rfl (rfl) (⟨_, rfl, rfl, hQ⟩)

set_option maxHeartbeats 400000 in
set_option maxRecDepth 100000 in
theorem wN2_areEqual {X : zX} (hX : X.1.stackTraces = false) {σ : zS} {x o d mc ms : Nat} {p1 p2 : Int32} {fs : List Value} {Qs : zS → Prop} (hm : zMet X mX9_areEqual yX9_areEqual d mc ms [.ref x, .int p1, .int p2] σ (fun o_ s => o_ = .inr "java/lang/IllegalStateException" ∧ Qs s)) (hx : σ.1 x = .inr (7, fs)) : zMetH X mL_areEqual yL_areEqual (d + 1) mc ms [.ref x, .int p1, .int p2, .ref o] σ (zI (fun r t => r = 2 ∧ Qs t)) := by
  refine zMetH_of (ls := [some (.ref x), some (.int p1), some (.int p2), some (.ref o), none]) (by decide +kernel) rfl rfl hX (Nat.le_of_ble_eq_true rfl) rfl ?_
  refine zr_aload_n dL_areEqual_0 rfl ?_
  refine zr_iconst (v := 0) dL_areEqual_1 (by decide) ?_
  refine zr_aload_n dL_areEqual_2 rfl ?_
  refine zr_iload_n dL_areEqual_3 rfl ?_
  refine zr_iload_n dL_areEqual_4 rfl ?_
  refine zr_callVc (rest := [.int 0, .ref o]) dL_areEqual_5 vL_79 hm (Nat.le_refl _) (Nat.le_refl _) (Nat.le_refl _) rfl rfl (Nat.le_of_ble_eq_true rfl) hx (by decide) (fun v2 s1 h_ => ?_) (fun E s1 h_ => ?_)
  · obtain ⟨e, -⟩ := h_
    cases e
  · obtain ⟨e, hQ⟩ := h_
    cases e
    refine ⟨24, zHasS lL_19 (by decide +kernel) (by decide) (zHas0 lL_56 (by decide +kernel) rfl (by decide)), fun q => ?_⟩
    refine zr_astore (ls' := [some (.ref x), some (.int p1), some (.int p2), some (.ref o), some (.ref q)]) dL_areEqual_24 (by decide) rfl ?_
    refine zr_iconst (v := 2) dL_areEqual_26 (by decide) ?_
    exact zr_ireturn dL_areEqual_27 rfl (rfl) (⟨_, rfl, rfl, hQ⟩)

set_option maxHeartbeats 400000 in
set_option maxRecDepth 100000 in
theorem wOK_areEqualByCoordinates {X : zX} (hX : X.1.stackTraces = false) {σ : zS} {x o d mc ms : Nat} {p1 p2 : Int32} {fs : List Value} {Qs : zS → Prop} {v : Int32} {f : Nat → Int64} (hm : zMet X mX9_areEqualByCoordinates yX9_areEqualByCoordinates d mc ms [.ref x, .int p1, .int p2] σ (zI (fun r s => r = v ∧ Qs s))) (hx : σ.1 x = .inr (7, fs)) (ho : ∀ σ2, Qs σ2 → σ2.1 o = .inl (3, 1, .inr (.inl f))) : zMetH X mL_areEqualByCoordinates yL_areEqualByCoordinates (d + 1) mc ms [.ref x, .int p1, .int p2, .ref o] σ (zI (fun r t => r = 0 ∧ ∃ s, Qs s ∧ t = zup s o (.inl (3, 1, .inr (.inl (vp_updL f 0 (if v = 0 then 0 else 1))))))) := by
  refine zMetH_of (ls := [some (.ref x), some (.int p1), some (.int p2), some (.ref o), none]) (by decide +kernel) rfl rfl hX (Nat.le_of_ble_eq_true rfl) rfl ?_
  refine zr_aload_n dL_areEqualByCoordinates_0 rfl ?_
  refine zr_iconst (v := 0) dL_areEqualByCoordinates_1 (by decide) ?_
  refine zr_aload_n dL_areEqualByCoordinates_2 rfl ?_
  refine zr_iload_n dL_areEqualByCoordinates_3 rfl ?_
  refine zr_iload_n dL_areEqualByCoordinates_4 rfl ?_
  refine zr_callVc (rest := [.int 0, .ref o]) dL_areEqualByCoordinates_5 vL_83 hm (Nat.le_refl _) (Nat.le_refl _) (Nat.le_refl _) rfl rfl (Nat.le_of_ble_eq_true rfl) hx (by decide) (fun v2 s1 h_ => ?_) (fun E s1 h_ => ?_)
  · obtain ⟨r, e, e2, hQ⟩ := h_
    cases e
    rw [e2]
    have ko := ho s1 hQ
    refine zr_if_eq (tgt := 15) dL_areEqualByCoordinates_8 (by decide) (fun c_8 => ?_) (fun c_8 => ?_)
    · refine zr_lconst (v := 0) dL_areEqualByCoordinates_15 (by decide) ?_
      refine zr_lastore dL_areEqualByCoordinates_16 ko (vp_in_nI (n := 0) (by omega) (by omega)) ?_
      rw [show (0 : Int32).toNatClampNeg = 0 from by decide]
      refine zr_sig (fun ks1 e_ks1 => ?_)
      have kh2 : ks1.1 o = .inl (3, 1, .inr (.inl (vp_updL f 0 0))) := by rw [e_ks1]; exact zup_at _ _ _
      refine zr_goto (tgt := 24) dL_areEqualByCoordinates_17 (by decide) ?_
      refine zr_iconst (v := 0) dL_areEqualByCoordinates_24 (by decide) ?_
      exact zr_ireturn dL_areEqualByCoordinates_25 rfl (rfl) (⟨_, rfl, rfl, s1, hQ, by rw [e_ks1, if_pos c_8]⟩)
    · refine zr_lconst (v := 1) dL_areEqualByCoordinates_11 (by decide) ?_
      refine zr_goto (tgt := 16) dL_areEqualByCoordinates_12 (by decide) ?_
      refine zr_lastore dL_areEqualByCoordinates_16 ko (vp_in_nI (n := 0) (by omega) (by omega)) ?_
      rw [show (0 : Int32).toNatClampNeg = 0 from by decide]
      refine zr_sig (fun ks3 e_ks3 => ?_)
      have kh4 : ks3.1 o = .inl (3, 1, .inr (.inl (vp_updL f 0 1))) := by rw [e_ks3]; exact zup_at _ _ _
      refine zr_goto (tgt := 24) dL_areEqualByCoordinates_17 (by decide) ?_
      refine zr_iconst (v := 0) dL_areEqualByCoordinates_24 (by decide) ?_
      exact zr_ireturn dL_areEqualByCoordinates_25 rfl (rfl) (⟨_, rfl, rfl, s1, hQ, by rw [e_ks3, if_neg c_8]⟩)
  · obtain ⟨r, e, -⟩ := h_
    cases e

set_option maxHeartbeats 400000 in
set_option maxRecDepth 100000 in
theorem wN1_areEqualByCoordinates {X : zX} (hX : X.1.stackTraces = false) {σ : zS} {x o d mc ms : Nat} {p1 p2 : Int32} {fs : List Value} {Qs : zS → Prop} (hm : zMet X mX9_areEqualByCoordinates yX9_areEqualByCoordinates d mc ms [.ref x, .int p1, .int p2] σ (fun o_ s => o_ = .inr "java/lang/IndexOutOfBoundsException" ∧ Qs s)) (hx : σ.1 x = .inr (7, fs)) : zMetH X mL_areEqualByCoordinates yL_areEqualByCoordinates (d + 1) mc ms [.ref x, .int p1, .int p2, .ref o] σ (zI (fun r t => r = 1 ∧ Qs t)) := by
  refine zMetH_of (ls := [some (.ref x), some (.int p1), some (.int p2), some (.ref o), none]) (by decide +kernel) rfl rfl hX (Nat.le_of_ble_eq_true rfl) rfl ?_
  refine zr_aload_n dL_areEqualByCoordinates_0 rfl ?_
  refine zr_iconst (v := 0) dL_areEqualByCoordinates_1 (by decide) ?_
  refine zr_aload_n dL_areEqualByCoordinates_2 rfl ?_
  refine zr_iload_n dL_areEqualByCoordinates_3 rfl ?_
  refine zr_iload_n dL_areEqualByCoordinates_4 rfl ?_
  refine zr_callVc (rest := [.int 0, .ref o]) dL_areEqualByCoordinates_5 vL_83 hm (Nat.le_refl _) (Nat.le_refl _) (Nat.le_refl _) rfl rfl (Nat.le_of_ble_eq_true rfl) hx (by decide) (fun v2 s1 h_ => ?_) (fun E s1 h_ => ?_)
  · obtain ⟨e, -⟩ := h_
    cases e
  · obtain ⟨e, hQ⟩ := h_
    cases e
    refine ⟨20, zHas0 lL_19 (by decide +kernel) rfl (by decide), fun q => ?_⟩
    refine zr_astore (ls' := [some (.ref x), some (.int p1), some (.int p2), some (.ref o), some (.ref q)]) dL_areEqualByCoordinates_20 (by decide) rfl ?_
    refine zr_iconst (v := 1) dL_areEqualByCoordinates_22 (by decide) ?_
    exact zr_ireturn dL_areEqualByCoordinates_23 rfl (rfl) (⟨_, rfl, rfl, hQ⟩)

set_option maxHeartbeats 400000 in
set_option maxRecDepth 100000 in
theorem wOK_compare {X : zX} (hX : X.1.stackTraces = false) {σ : zS} {x o d mc ms : Nat} {p1 p2 : Int32} {fs : List Value} {Qs : zS → Prop} {v : Int32} {f : Nat → Int64} (hm : zMet X mX9_compare yX9_compare d mc ms [.ref x, .int p1, .int p2] σ (zI (fun r s => r = v ∧ Qs s))) (hx : σ.1 x = .inr (7, fs)) (ho : ∀ σ2, Qs σ2 → σ2.1 o = .inl (3, 1, .inr (.inl f))) : zMetH X mL_compare yL_compare (d + 1) mc ms [.ref x, .int p1, .int p2, .ref o] σ (zI (fun r t => r = 0 ∧ ∃ s, Qs s ∧ t = zup s o (.inl (3, 1, .inr (.inl (vp_updL f 0 v.toInt64)))))) := by
  refine zMetH_of (ls := [some (.ref x), some (.int p1), some (.int p2), some (.ref o), none]) (by decide +kernel) rfl rfl hX (Nat.le_of_ble_eq_true rfl) rfl ?_
  refine zr_aload_n dL_compare_0 rfl ?_
  refine zr_iconst (v := 0) dL_compare_1 (by decide) ?_
  refine zr_aload_n dL_compare_2 rfl ?_
  refine zr_iload_n dL_compare_3 rfl ?_
  refine zr_iload_n dL_compare_4 rfl ?_
  refine zr_callVc (rest := [.int 0, .ref o]) dL_compare_5 vL_86 hm (Nat.le_refl _) (Nat.le_refl _) (Nat.le_refl _) rfl rfl (Nat.le_of_ble_eq_true rfl) hx (by decide) (fun v2 s1 h_ => ?_) (fun E s1 h_ => ?_)
  · obtain ⟨r, e, e2, hQ⟩ := h_
    cases e
    rw [e2]
    have ko := ho s1 hQ
    refine zr_i2l dL_compare_8 ?_
    refine zr_lastore dL_compare_9 ko (vp_in_nI (n := 0) (by omega) (by omega)) ?_
    rw [show (0 : Int32).toNatClampNeg = 0 from by decide]
    refine zr_sig (fun ks1 e_ks1 => ?_)
    have kh2 : ks1.1 o = .inl (3, 1, .inr (.inl (vp_updL f 0 ((v).toInt64)))) := by rw [e_ks1]; exact zup_at _ _ _
    refine zr_goto (tgt := 21) dL_compare_10 (by decide) ?_
    refine zr_iconst (v := 0) dL_compare_21 (by decide) ?_
    exact zr_ireturn dL_compare_22 rfl (rfl) (⟨_, rfl, rfl, s1, hQ, by rw [e_ks1]⟩)
  · obtain ⟨r, e, -⟩ := h_
    cases e

set_option maxHeartbeats 400000 in
set_option maxRecDepth 100000 in
theorem wN1_compare {X : zX} (hX : X.1.stackTraces = false) {σ : zS} {x o d mc ms : Nat} {p1 p2 : Int32} {fs : List Value} {Qs : zS → Prop} (hm : zMet X mX9_compare yX9_compare d mc ms [.ref x, .int p1, .int p2] σ (fun o_ s => o_ = .inr "java/lang/IndexOutOfBoundsException" ∧ Qs s)) (hx : σ.1 x = .inr (7, fs)) : zMetH X mL_compare yL_compare (d + 1) mc ms [.ref x, .int p1, .int p2, .ref o] σ (zI (fun r t => r = 1 ∧ Qs t)) := by
  refine zMetH_of (ls := [some (.ref x), some (.int p1), some (.int p2), some (.ref o), none]) (by decide +kernel) rfl rfl hX (Nat.le_of_ble_eq_true rfl) rfl ?_
  refine zr_aload_n dL_compare_0 rfl ?_
  refine zr_iconst (v := 0) dL_compare_1 (by decide) ?_
  refine zr_aload_n dL_compare_2 rfl ?_
  refine zr_iload_n dL_compare_3 rfl ?_
  refine zr_iload_n dL_compare_4 rfl ?_
  refine zr_callVc (rest := [.int 0, .ref o]) dL_compare_5 vL_86 hm (Nat.le_refl _) (Nat.le_refl _) (Nat.le_refl _) rfl rfl (Nat.le_of_ble_eq_true rfl) hx (by decide) (fun v2 s1 h_ => ?_) (fun E s1 h_ => ?_)
  · obtain ⟨e, -⟩ := h_
    cases e
  · obtain ⟨e, hQ⟩ := h_
    cases e
    refine ⟨13, zHas0 lL_19 (by decide +kernel) rfl (by decide), fun q => ?_⟩
    refine zr_astore (ls' := [some (.ref x), some (.int p1), some (.int p2), some (.ref o), some (.ref q)]) dL_compare_13 (by decide) rfl ?_
    refine zr_iconst (v := 1) dL_compare_15 (by decide) ?_
    exact zr_ireturn dL_compare_16 rfl (rfl) (⟨_, rfl, rfl, hQ⟩)

set_option maxHeartbeats 400000 in
set_option maxRecDepth 100000 in
theorem wN2_compare {X : zX} (hX : X.1.stackTraces = false) {σ : zS} {x o d mc ms : Nat} {p1 p2 : Int32} {fs : List Value} {Qs : zS → Prop} (hm : zMet X mX9_compare yX9_compare d mc ms [.ref x, .int p1, .int p2] σ (fun o_ s => o_ = .inr "java/lang/IllegalStateException" ∧ Qs s)) (hx : σ.1 x = .inr (7, fs)) : zMetH X mL_compare yL_compare (d + 1) mc ms [.ref x, .int p1, .int p2, .ref o] σ (zI (fun r t => r = 2 ∧ Qs t)) := by
  refine zMetH_of (ls := [some (.ref x), some (.int p1), some (.int p2), some (.ref o), none]) (by decide +kernel) rfl rfl hX (Nat.le_of_ble_eq_true rfl) rfl ?_
  refine zr_aload_n dL_compare_0 rfl ?_
  refine zr_iconst (v := 0) dL_compare_1 (by decide) ?_
  refine zr_aload_n dL_compare_2 rfl ?_
  refine zr_iload_n dL_compare_3 rfl ?_
  refine zr_iload_n dL_compare_4 rfl ?_
  refine zr_callVc (rest := [.int 0, .ref o]) dL_compare_5 vL_86 hm (Nat.le_refl _) (Nat.le_refl _) (Nat.le_refl _) rfl rfl (Nat.le_of_ble_eq_true rfl) hx (by decide) (fun v2 s1 h_ => ?_) (fun E s1 h_ => ?_)
  · obtain ⟨e, -⟩ := h_
    cases e
  · obtain ⟨e, hQ⟩ := h_
    cases e
    refine ⟨17, zHasS lL_19 (by decide +kernel) (by decide) (zHas0 lL_56 (by decide +kernel) rfl (by decide)), fun q => ?_⟩
    refine zr_astore (ls' := [some (.ref x), some (.int p1), some (.int p2), some (.ref o), some (.ref q)]) dL_compare_17 (by decide) rfl ?_
    refine zr_iconst (v := 2) dL_compare_19 (by decide) ?_
    exact zr_ireturn dL_compare_20 rfl (rfl) (⟨_, rfl, rfl, hQ⟩)

set_option maxHeartbeats 400000 in
set_option maxRecDepth 100000 in
theorem wOK_compareByCoordinates {X : zX} (hX : X.1.stackTraces = false) {σ : zS} {x o d mc ms : Nat} {p1 p2 : Int32} {fs : List Value} {Qs : zS → Prop} {v : Int32} {f : Nat → Int64} (hm : zMet X mX9_compareByCoordinates yX9_compareByCoordinates d mc ms [.ref x, .int p1, .int p2] σ (zI (fun r s => r = v ∧ Qs s))) (hx : σ.1 x = .inr (7, fs)) (ho : ∀ σ2, Qs σ2 → σ2.1 o = .inl (3, 1, .inr (.inl f))) : zMetH X mL_compareByCoordinates yL_compareByCoordinates (d + 1) mc ms [.ref x, .int p1, .int p2, .ref o] σ (zI (fun r t => r = 0 ∧ ∃ s, Qs s ∧ t = zup s o (.inl (3, 1, .inr (.inl (vp_updL f 0 v.toInt64)))))) := by
  refine zMetH_of (ls := [some (.ref x), some (.int p1), some (.int p2), some (.ref o), none]) (by decide +kernel) rfl rfl hX (Nat.le_of_ble_eq_true rfl) rfl ?_
  refine zr_aload_n dL_compareByCoordinates_0 rfl ?_
  refine zr_iconst (v := 0) dL_compareByCoordinates_1 (by decide) ?_
  refine zr_aload_n dL_compareByCoordinates_2 rfl ?_
  refine zr_iload_n dL_compareByCoordinates_3 rfl ?_
  refine zr_iload_n dL_compareByCoordinates_4 rfl ?_
  refine zr_callVc (rest := [.int 0, .ref o]) dL_compareByCoordinates_5 vL_89 hm (Nat.le_refl _) (Nat.le_refl _) (Nat.le_refl _) rfl rfl (Nat.le_of_ble_eq_true rfl) hx (by decide) (fun v2 s1 h_ => ?_) (fun E s1 h_ => ?_)
  · obtain ⟨r, e, e2, hQ⟩ := h_
    cases e
    rw [e2]
    have ko := ho s1 hQ
    refine zr_i2l dL_compareByCoordinates_8 ?_
    refine zr_lastore dL_compareByCoordinates_9 ko (vp_in_nI (n := 0) (by omega) (by omega)) ?_
    rw [show (0 : Int32).toNatClampNeg = 0 from by decide]
    refine zr_sig (fun ks1 e_ks1 => ?_)
    have kh2 : ks1.1 o = .inl (3, 1, .inr (.inl (vp_updL f 0 ((v).toInt64)))) := by rw [e_ks1]; exact zup_at _ _ _
    refine zr_goto (tgt := 17) dL_compareByCoordinates_10 (by decide) ?_
    refine zr_iconst (v := 0) dL_compareByCoordinates_17 (by decide) ?_
    exact zr_ireturn dL_compareByCoordinates_18 rfl (rfl) (⟨_, rfl, rfl, s1, hQ, by rw [e_ks1]⟩)
  · obtain ⟨r, e, -⟩ := h_
    cases e

set_option maxHeartbeats 400000 in
set_option maxRecDepth 100000 in
theorem wN1_compareByCoordinates {X : zX} (hX : X.1.stackTraces = false) {σ : zS} {x o d mc ms : Nat} {p1 p2 : Int32} {fs : List Value} {Qs : zS → Prop} (hm : zMet X mX9_compareByCoordinates yX9_compareByCoordinates d mc ms [.ref x, .int p1, .int p2] σ (fun o_ s => o_ = .inr "java/lang/IndexOutOfBoundsException" ∧ Qs s)) (hx : σ.1 x = .inr (7, fs)) : zMetH X mL_compareByCoordinates yL_compareByCoordinates (d + 1) mc ms [.ref x, .int p1, .int p2, .ref o] σ (zI (fun r t => r = 1 ∧ Qs t)) := by
  refine zMetH_of (ls := [some (.ref x), some (.int p1), some (.int p2), some (.ref o), none]) (by decide +kernel) rfl rfl hX (Nat.le_of_ble_eq_true rfl) rfl ?_
  refine zr_aload_n dL_compareByCoordinates_0 rfl ?_
  refine zr_iconst (v := 0) dL_compareByCoordinates_1 (by decide) ?_
  refine zr_aload_n dL_compareByCoordinates_2 rfl ?_
  refine zr_iload_n dL_compareByCoordinates_3 rfl ?_
  refine zr_iload_n dL_compareByCoordinates_4 rfl ?_
  refine zr_callVc (rest := [.int 0, .ref o]) dL_compareByCoordinates_5 vL_89 hm (Nat.le_refl _) (Nat.le_refl _) (Nat.le_refl _) rfl rfl (Nat.le_of_ble_eq_true rfl) hx (by decide) (fun v2 s1 h_ => ?_) (fun E s1 h_ => ?_)
  · obtain ⟨e, -⟩ := h_
    cases e
  · obtain ⟨e, hQ⟩ := h_
    cases e
    refine ⟨13, zHas0 lL_19 (by decide +kernel) rfl (by decide), fun q => ?_⟩
    refine zr_astore (ls' := [some (.ref x), some (.int p1), some (.int p2), some (.ref o), some (.ref q)]) dL_compareByCoordinates_13 (by decide) rfl ?_
    refine zr_iconst (v := 1) dL_compareByCoordinates_15 (by decide) ?_
    exact zr_ireturn dL_compareByCoordinates_16 rfl (rfl) (⟨_, rfl, rfl, hQ⟩)

set_option maxHeartbeats 400000 in
set_option maxRecDepth 100000 in
theorem wOK_caseByBraid {X : zX} (hX : X.1.stackTraces = false) {σ : zS} {x o d mc ms : Nat} {p1 : Int32} {fs : List Value} {Qs : zS → Prop} {v : Int32} {f : Nat → Int64} (hm : zMet X mX9_caseByBraid yX9_caseByBraid d mc ms [.ref x, .int p1] σ (zI (fun r s => r = v ∧ Qs s))) (hx : σ.1 x = .inr (7, fs)) (ho : ∀ σ2, Qs σ2 → σ2.1 o = .inl (3, 1, .inr (.inl f))) : zMetH X mL_caseByBraid yL_caseByBraid (d + 1) mc ms [.ref x, .int p1, .ref o] σ (zI (fun r t => r = 0 ∧ ∃ s, Qs s ∧ t = zup s o (.inl (3, 1, .inr (.inl (vp_updL f 0 v.toInt64)))))) := by
  refine zMetH_of (ls := [some (.ref x), some (.int p1), some (.ref o), none]) (by decide +kernel) rfl rfl hX (Nat.le_of_ble_eq_true rfl) rfl ?_
  refine zr_aload_n dL_caseByBraid_0 rfl ?_
  refine zr_iconst (v := 0) dL_caseByBraid_1 (by decide) ?_
  refine zr_aload_n dL_caseByBraid_2 rfl ?_
  refine zr_iload_n dL_caseByBraid_3 rfl ?_
  refine zr_callVc (rest := [.int 0, .ref o]) dL_caseByBraid_4 vL_92 hm (Nat.le_refl _) (Nat.le_refl _) (Nat.le_refl _) rfl rfl (Nat.le_of_ble_eq_true rfl) hx (by decide) (fun v2 s1 h_ => ?_) (fun E s1 h_ => ?_)
  · obtain ⟨r, e, e2, hQ⟩ := h_
    cases e
    rw [e2]
    have ko := ho s1 hQ
    refine zr_i2l dL_caseByBraid_7 ?_
    refine zr_lastore dL_caseByBraid_8 ko (vp_in_nI (n := 0) (by omega) (by omega)) ?_
    rw [show (0 : Int32).toNatClampNeg = 0 from by decide]
    refine zr_sig (fun ks1 e_ks1 => ?_)
    have kh2 : ks1.1 o = .inl (3, 1, .inr (.inl (vp_updL f 0 ((v).toInt64)))) := by rw [e_ks1]; exact zup_at _ _ _
    refine zr_goto (tgt := 15) dL_caseByBraid_9 (by decide) ?_
    refine zr_iconst (v := 0) dL_caseByBraid_15 (by decide) ?_
    exact zr_ireturn dL_caseByBraid_16 rfl (rfl) (⟨_, rfl, rfl, s1, hQ, by rw [e_ks1]⟩)
  · obtain ⟨r, e, -⟩ := h_
    cases e

set_option maxHeartbeats 400000 in
set_option maxRecDepth 100000 in
theorem wN1_caseByBraid {X : zX} (hX : X.1.stackTraces = false) {σ : zS} {x o d mc ms : Nat} {p1 : Int32} {fs : List Value} {Qs : zS → Prop} (hm : zMet X mX9_caseByBraid yX9_caseByBraid d mc ms [.ref x, .int p1] σ (fun o_ s => o_ = .inr "java/util/NoSuchElementException" ∧ Qs s)) (hx : σ.1 x = .inr (7, fs)) : zMetH X mL_caseByBraid yL_caseByBraid (d + 1) mc ms [.ref x, .int p1, .ref o] σ (zI (fun r t => r = 1 ∧ Qs t)) := by
  refine zMetH_of (ls := [some (.ref x), some (.int p1), some (.ref o), none]) (by decide +kernel) rfl rfl hX (Nat.le_of_ble_eq_true rfl) rfl ?_
  refine zr_aload_n dL_caseByBraid_0 rfl ?_
  refine zr_iconst (v := 0) dL_caseByBraid_1 (by decide) ?_
  refine zr_aload_n dL_caseByBraid_2 rfl ?_
  refine zr_iload_n dL_caseByBraid_3 rfl ?_
  refine zr_callVc (rest := [.int 0, .ref o]) dL_caseByBraid_4 vL_92 hm (Nat.le_refl _) (Nat.le_refl _) (Nat.le_refl _) rfl rfl (Nat.le_of_ble_eq_true rfl) hx (by decide) (fun v2 s1 h_ => ?_) (fun E s1 h_ => ?_)
  · obtain ⟨e, -⟩ := h_
    cases e
  · obtain ⟨e, hQ⟩ := h_
    cases e
    refine ⟨12, zHas0 lL_41 (by decide +kernel) rfl (by decide), fun q => ?_⟩
    refine zr_astore_n (ls' := [some (.ref x), some (.int p1), some (.ref o), some (.ref q)]) dL_caseByBraid_12 rfl (by decide) rfl ?_
    refine zr_iconst (v := 1) dL_caseByBraid_13 (by decide) ?_
    exact zr_ireturn dL_caseByBraid_14 rfl (rfl) (⟨_, rfl, rfl, hQ⟩)

set_option maxHeartbeats 400000 in
set_option maxRecDepth 100000 in
theorem wOK_decide {X : zX} (hX : X.1.stackTraces = false) {σ : zS} {x o d mc ms : Nat} {p1 : Int32} {fs : List Value} {Qs : zS → Prop} {v : Int32} {f : Nat → Int64} (hm : zMet X mX9_decide yX9_decide d mc ms [.ref x, .int p1] σ (zI (fun r s => r = v ∧ Qs s))) (hx : σ.1 x = .inr (7, fs)) (ho : ∀ σ2, Qs σ2 → σ2.1 o = .inl (3, 1, .inr (.inl f))) : zMetH X mL_decide yL_decide (d + 1) mc ms [.ref x, .int p1, .ref o] σ (zI (fun r t => r = 0 ∧ ∃ s, Qs s ∧ t = zup s o (.inl (3, 1, .inr (.inl (vp_updL f 0 (if v = 0 then 0 else 1))))))) := by
  refine zMetH_of (ls := [some (.ref x), some (.int p1), some (.ref o), none]) (by decide +kernel) rfl rfl hX (Nat.le_of_ble_eq_true rfl) rfl ?_
  refine zr_aload_n dL_decide_0 rfl ?_
  refine zr_iconst (v := 0) dL_decide_1 (by decide) ?_
  refine zr_aload_n dL_decide_2 rfl ?_
  refine zr_iload_n dL_decide_3 rfl ?_
  refine zr_callVc (rest := [.int 0, .ref o]) dL_decide_4 vL_95 hm (Nat.le_refl _) (Nat.le_refl _) (Nat.le_refl _) rfl rfl (Nat.le_of_ble_eq_true rfl) hx (by decide) (fun v2 s1 h_ => ?_) (fun E s1 h_ => ?_)
  · obtain ⟨r, e, e2, hQ⟩ := h_
    cases e
    rw [e2]
    have ko := ho s1 hQ
    refine zr_if_eq (tgt := 14) dL_decide_7 (by decide) (fun c_7 => ?_) (fun c_7 => ?_)
    · refine zr_lconst (v := 0) dL_decide_14 (by decide) ?_
      refine zr_lastore dL_decide_15 ko (vp_in_nI (n := 0) (by omega) (by omega)) ?_
      rw [show (0 : Int32).toNatClampNeg = 0 from by decide]
      refine zr_sig (fun ks1 e_ks1 => ?_)
      have kh2 : ks1.1 o = .inl (3, 1, .inr (.inl (vp_updL f 0 0))) := by rw [e_ks1]; exact zup_at _ _ _
      refine zr_goto (tgt := 25) dL_decide_16 (by decide) ?_
      refine zr_iconst (v := 0) dL_decide_25 (by decide) ?_
      exact zr_ireturn dL_decide_26 rfl (rfl) (⟨_, rfl, rfl, s1, hQ, by rw [e_ks1, if_pos c_7]⟩)
    · refine zr_lconst (v := 1) dL_decide_10 (by decide) ?_
      refine zr_goto (tgt := 15) dL_decide_11 (by decide) ?_
      refine zr_lastore dL_decide_15 ko (vp_in_nI (n := 0) (by omega) (by omega)) ?_
      rw [show (0 : Int32).toNatClampNeg = 0 from by decide]
      refine zr_sig (fun ks3 e_ks3 => ?_)
      have kh4 : ks3.1 o = .inl (3, 1, .inr (.inl (vp_updL f 0 1))) := by rw [e_ks3]; exact zup_at _ _ _
      refine zr_goto (tgt := 25) dL_decide_16 (by decide) ?_
      refine zr_iconst (v := 0) dL_decide_25 (by decide) ?_
      exact zr_ireturn dL_decide_26 rfl (rfl) (⟨_, rfl, rfl, s1, hQ, by rw [e_ks3, if_neg c_7]⟩)
  · obtain ⟨r, e, -⟩ := h_
    cases e

set_option maxHeartbeats 400000 in
set_option maxRecDepth 100000 in
theorem wN1_decide {X : zX} (hX : X.1.stackTraces = false) {σ : zS} {x o d mc ms : Nat} {p1 : Int32} {fs : List Value} {Qs : zS → Prop} (hm : zMet X mX9_decide yX9_decide d mc ms [.ref x, .int p1] σ (fun o_ s => o_ = .inr "java/lang/IndexOutOfBoundsException" ∧ Qs s)) (hx : σ.1 x = .inr (7, fs)) : zMetH X mL_decide yL_decide (d + 1) mc ms [.ref x, .int p1, .ref o] σ (zI (fun r t => r = 1 ∧ Qs t)) := by
  refine zMetH_of (ls := [some (.ref x), some (.int p1), some (.ref o), none]) (by decide +kernel) rfl rfl hX (Nat.le_of_ble_eq_true rfl) rfl ?_
  refine zr_aload_n dL_decide_0 rfl ?_
  refine zr_iconst (v := 0) dL_decide_1 (by decide) ?_
  refine zr_aload_n dL_decide_2 rfl ?_
  refine zr_iload_n dL_decide_3 rfl ?_
  refine zr_callVc (rest := [.int 0, .ref o]) dL_decide_4 vL_95 hm (Nat.le_refl _) (Nat.le_refl _) (Nat.le_refl _) rfl rfl (Nat.le_of_ble_eq_true rfl) hx (by decide) (fun v2 s1 h_ => ?_) (fun E s1 h_ => ?_)
  · obtain ⟨e, -⟩ := h_
    cases e
  · obtain ⟨e, hQ⟩ := h_
    cases e
    refine ⟨19, zHas0 lL_19 (by decide +kernel) rfl (by decide), fun q => ?_⟩
    refine zr_astore_n (ls' := [some (.ref x), some (.int p1), some (.ref o), some (.ref q)]) dL_decide_19 rfl (by decide) rfl ?_
    refine zr_iconst (v := 1) dL_decide_20 (by decide) ?_
    exact zr_ireturn dL_decide_21 rfl (rfl) (⟨_, rfl, rfl, hQ⟩)

set_option maxHeartbeats 400000 in
set_option maxRecDepth 100000 in
theorem wN2_decide {X : zX} (hX : X.1.stackTraces = false) {σ : zS} {x o d mc ms : Nat} {p1 : Int32} {fs : List Value} {Qs : zS → Prop} (hm : zMet X mX9_decide yX9_decide d mc ms [.ref x, .int p1] σ (fun o_ s => o_ = .inr "java/lang/UnsupportedOperationException" ∧ Qs s)) (hx : σ.1 x = .inr (7, fs)) : zMetH X mL_decide yL_decide (d + 1) mc ms [.ref x, .int p1, .ref o] σ (zI (fun r t => r = 2 ∧ Qs t)) := by
  refine zMetH_of (ls := [some (.ref x), some (.int p1), some (.ref o), none]) (by decide +kernel) rfl rfl hX (Nat.le_of_ble_eq_true rfl) rfl ?_
  refine zr_aload_n dL_decide_0 rfl ?_
  refine zr_iconst (v := 0) dL_decide_1 (by decide) ?_
  refine zr_aload_n dL_decide_2 rfl ?_
  refine zr_iload_n dL_decide_3 rfl ?_
  refine zr_callVc (rest := [.int 0, .ref o]) dL_decide_4 vL_95 hm (Nat.le_refl _) (Nat.le_refl _) (Nat.le_refl _) rfl rfl (Nat.le_of_ble_eq_true rfl) hx (by decide) (fun v2 s1 h_ => ?_) (fun E s1 h_ => ?_)
  · obtain ⟨e, -⟩ := h_
    cases e
  · obtain ⟨e, hQ⟩ := h_
    cases e
    refine ⟨22, zHasS lL_19 (by decide +kernel) (by decide) (zHas0 lL_13 (by decide +kernel) rfl (by decide)), fun q => ?_⟩
    refine zr_astore_n (ls' := [some (.ref x), some (.int p1), some (.ref o), some (.ref q)]) dL_decide_22 rfl (by decide) rfl ?_
    refine zr_iconst (v := 2) dL_decide_23 (by decide) ?_
    exact zr_ireturn dL_decide_24 rfl (rfl) (⟨_, rfl, rfl, hQ⟩)

set_option maxHeartbeats 400000 in
set_option maxRecDepth 100000 in
theorem wOK_appeal {X : zX} (hX : X.1.stackTraces = false) {σ : zS} {x o d mc ms : Nat} {p1 : Int32} {fs : List Value} {Qs : zS → Prop} {v : Int32} {f : Nat → Int64} (hm : zMet X mX9_appeal yX9_appeal d mc ms [.ref x, .int p1] σ (zI (fun r s => r = v ∧ Qs s))) (hx : σ.1 x = .inr (7, fs)) (ho : ∀ σ2, Qs σ2 → σ2.1 o = .inl (3, 1, .inr (.inl f))) : zMetH X mL_appeal yL_appeal (d + 1) mc ms [.ref x, .int p1, .ref o] σ (zI (fun r t => r = 0 ∧ ∃ s, Qs s ∧ t = zup s o (.inl (3, 1, .inr (.inl (vp_updL f 0 v.toInt64)))))) := by
  refine zMetH_of (ls := [some (.ref x), some (.int p1), some (.ref o), none]) (by decide +kernel) rfl rfl hX (Nat.le_of_ble_eq_true rfl) rfl ?_
  refine zr_aload_n dL_appeal_0 rfl ?_
  refine zr_iconst (v := 0) dL_appeal_1 (by decide) ?_
  refine zr_aload_n dL_appeal_2 rfl ?_
  refine zr_iload_n dL_appeal_3 rfl ?_
  refine zr_callVc (rest := [.int 0, .ref o]) dL_appeal_4 vL_98 hm (Nat.le_refl _) (Nat.le_refl _) (Nat.le_refl _) rfl rfl (Nat.le_of_ble_eq_true rfl) hx (by decide) (fun v2 s1 h_ => ?_) (fun E s1 h_ => ?_)
  · obtain ⟨r, e, e2, hQ⟩ := h_
    cases e
    rw [e2]
    have ko := ho s1 hQ
    refine zr_i2l dL_appeal_7 ?_
    refine zr_lastore dL_appeal_8 ko (vp_in_nI (n := 0) (by omega) (by omega)) ?_
    rw [show (0 : Int32).toNatClampNeg = 0 from by decide]
    refine zr_sig (fun ks1 e_ks1 => ?_)
    have kh2 : ks1.1 o = .inl (3, 1, .inr (.inl (vp_updL f 0 ((v).toInt64)))) := by rw [e_ks1]; exact zup_at _ _ _
    refine zr_goto (tgt := 18) dL_appeal_9 (by decide) ?_
    refine zr_iconst (v := 0) dL_appeal_18 (by decide) ?_
    exact zr_ireturn dL_appeal_19 rfl (rfl) (⟨_, rfl, rfl, s1, hQ, by rw [e_ks1]⟩)
  · obtain ⟨r, e, -⟩ := h_
    cases e

set_option maxHeartbeats 400000 in
set_option maxRecDepth 100000 in
theorem wN1_appeal {X : zX} (hX : X.1.stackTraces = false) {σ : zS} {x o d mc ms : Nat} {p1 : Int32} {fs : List Value} {Qs : zS → Prop} (hm : zMet X mX9_appeal yX9_appeal d mc ms [.ref x, .int p1] σ (fun o_ s => o_ = .inr "java/lang/IndexOutOfBoundsException" ∧ Qs s)) (hx : σ.1 x = .inr (7, fs)) : zMetH X mL_appeal yL_appeal (d + 1) mc ms [.ref x, .int p1, .ref o] σ (zI (fun r t => r = 1 ∧ Qs t)) := by
  refine zMetH_of (ls := [some (.ref x), some (.int p1), some (.ref o), none]) (by decide +kernel) rfl rfl hX (Nat.le_of_ble_eq_true rfl) rfl ?_
  refine zr_aload_n dL_appeal_0 rfl ?_
  refine zr_iconst (v := 0) dL_appeal_1 (by decide) ?_
  refine zr_aload_n dL_appeal_2 rfl ?_
  refine zr_iload_n dL_appeal_3 rfl ?_
  refine zr_callVc (rest := [.int 0, .ref o]) dL_appeal_4 vL_98 hm (Nat.le_refl _) (Nat.le_refl _) (Nat.le_refl _) rfl rfl (Nat.le_of_ble_eq_true rfl) hx (by decide) (fun v2 s1 h_ => ?_) (fun E s1 h_ => ?_)
  · obtain ⟨e, -⟩ := h_
    cases e
  · obtain ⟨e, hQ⟩ := h_
    cases e
    refine ⟨12, zHas0 lL_19 (by decide +kernel) rfl (by decide), fun q => ?_⟩
    refine zr_astore_n (ls' := [some (.ref x), some (.int p1), some (.ref o), some (.ref q)]) dL_appeal_12 rfl (by decide) rfl ?_
    refine zr_iconst (v := 1) dL_appeal_13 (by decide) ?_
    exact zr_ireturn dL_appeal_14 rfl (rfl) (⟨_, rfl, rfl, hQ⟩)

set_option maxHeartbeats 400000 in
set_option maxRecDepth 100000 in
theorem wN2_appeal {X : zX} (hX : X.1.stackTraces = false) {σ : zS} {x o d mc ms : Nat} {p1 : Int32} {fs : List Value} {Qs : zS → Prop} (hm : zMet X mX9_appeal yX9_appeal d mc ms [.ref x, .int p1] σ (fun o_ s => o_ = .inr "java/lang/UnsupportedOperationException" ∧ Qs s)) (hx : σ.1 x = .inr (7, fs)) : zMetH X mL_appeal yL_appeal (d + 1) mc ms [.ref x, .int p1, .ref o] σ (zI (fun r t => r = 2 ∧ Qs t)) := by
  refine zMetH_of (ls := [some (.ref x), some (.int p1), some (.ref o), none]) (by decide +kernel) rfl rfl hX (Nat.le_of_ble_eq_true rfl) rfl ?_
  refine zr_aload_n dL_appeal_0 rfl ?_
  refine zr_iconst (v := 0) dL_appeal_1 (by decide) ?_
  refine zr_aload_n dL_appeal_2 rfl ?_
  refine zr_iload_n dL_appeal_3 rfl ?_
  refine zr_callVc (rest := [.int 0, .ref o]) dL_appeal_4 vL_98 hm (Nat.le_refl _) (Nat.le_refl _) (Nat.le_refl _) rfl rfl (Nat.le_of_ble_eq_true rfl) hx (by decide) (fun v2 s1 h_ => ?_) (fun E s1 h_ => ?_)
  · obtain ⟨e, -⟩ := h_
    cases e
  · obtain ⟨e, hQ⟩ := h_
    cases e
    refine ⟨15, zHasS lL_19 (by decide +kernel) (by decide) (zHas0 lL_13 (by decide +kernel) rfl (by decide)), fun q => ?_⟩
    refine zr_astore_n (ls' := [some (.ref x), some (.int p1), some (.ref o), some (.ref q)]) dL_appeal_15 rfl (by decide) rfl ?_
    refine zr_iconst (v := 2) dL_appeal_16 (by decide) ?_
    exact zr_ireturn dL_appeal_17 rfl (rfl) (⟨_, rfl, rfl, hQ⟩)

set_option maxHeartbeats 400000 in
set_option maxRecDepth 100000 in
theorem wOK_isDecided {X : zX} (hX : X.1.stackTraces = false) {σ : zS} {x o d mc ms : Nat} {p1 : Int32} {fs : List Value} {Qs : zS → Prop} {v : Int32} {f : Nat → Int64} (hm : zMet X mX9_isDecided yX9_isDecided d mc ms [.ref x, .int p1] σ (zI (fun r s => r = v ∧ Qs s))) (hx : σ.1 x = .inr (7, fs)) (ho : ∀ σ2, Qs σ2 → σ2.1 o = .inl (3, 1, .inr (.inl f))) : zMetH X mL_isDecided yL_isDecided (d + 1) mc ms [.ref x, .int p1, .ref o] σ (zI (fun r t => r = 0 ∧ ∃ s, Qs s ∧ t = zup s o (.inl (3, 1, .inr (.inl (vp_updL f 0 (if v = 0 then 0 else 1))))))) := by
  refine zMetH_of (ls := [some (.ref x), some (.int p1), some (.ref o), none]) (by decide +kernel) rfl rfl hX (Nat.le_of_ble_eq_true rfl) rfl ?_
  refine zr_aload_n dL_isDecided_0 rfl ?_
  refine zr_iconst (v := 0) dL_isDecided_1 (by decide) ?_
  refine zr_aload_n dL_isDecided_2 rfl ?_
  refine zr_iload_n dL_isDecided_3 rfl ?_
  refine zr_callVc (rest := [.int 0, .ref o]) dL_isDecided_4 vL_101 hm (Nat.le_refl _) (Nat.le_refl _) (Nat.le_refl _) rfl rfl (Nat.le_of_ble_eq_true rfl) hx (by decide) (fun v2 s1 h_ => ?_) (fun E s1 h_ => ?_)
  · obtain ⟨r, e, e2, hQ⟩ := h_
    cases e
    rw [e2]
    have ko := ho s1 hQ
    refine zr_if_eq (tgt := 14) dL_isDecided_7 (by decide) (fun c_7 => ?_) (fun c_7 => ?_)
    · refine zr_lconst (v := 0) dL_isDecided_14 (by decide) ?_
      refine zr_lastore dL_isDecided_15 ko (vp_in_nI (n := 0) (by omega) (by omega)) ?_
      rw [show (0 : Int32).toNatClampNeg = 0 from by decide]
      refine zr_sig (fun ks1 e_ks1 => ?_)
      have kh2 : ks1.1 o = .inl (3, 1, .inr (.inl (vp_updL f 0 0))) := by rw [e_ks1]; exact zup_at _ _ _
      refine zr_goto (tgt := 22) dL_isDecided_16 (by decide) ?_
      refine zr_iconst (v := 0) dL_isDecided_22 (by decide) ?_
      exact zr_ireturn dL_isDecided_23 rfl (rfl) (⟨_, rfl, rfl, s1, hQ, by rw [e_ks1, if_pos c_7]⟩)
    · refine zr_lconst (v := 1) dL_isDecided_10 (by decide) ?_
      refine zr_goto (tgt := 15) dL_isDecided_11 (by decide) ?_
      refine zr_lastore dL_isDecided_15 ko (vp_in_nI (n := 0) (by omega) (by omega)) ?_
      rw [show (0 : Int32).toNatClampNeg = 0 from by decide]
      refine zr_sig (fun ks3 e_ks3 => ?_)
      have kh4 : ks3.1 o = .inl (3, 1, .inr (.inl (vp_updL f 0 1))) := by rw [e_ks3]; exact zup_at _ _ _
      refine zr_goto (tgt := 22) dL_isDecided_16 (by decide) ?_
      refine zr_iconst (v := 0) dL_isDecided_22 (by decide) ?_
      exact zr_ireturn dL_isDecided_23 rfl (rfl) (⟨_, rfl, rfl, s1, hQ, by rw [e_ks3, if_neg c_7]⟩)
  · obtain ⟨r, e, -⟩ := h_
    cases e

set_option maxHeartbeats 400000 in
set_option maxRecDepth 100000 in
theorem wN1_isDecided {X : zX} (hX : X.1.stackTraces = false) {σ : zS} {x o d mc ms : Nat} {p1 : Int32} {fs : List Value} {Qs : zS → Prop} (hm : zMet X mX9_isDecided yX9_isDecided d mc ms [.ref x, .int p1] σ (fun o_ s => o_ = .inr "java/lang/IndexOutOfBoundsException" ∧ Qs s)) (hx : σ.1 x = .inr (7, fs)) : zMetH X mL_isDecided yL_isDecided (d + 1) mc ms [.ref x, .int p1, .ref o] σ (zI (fun r t => r = 1 ∧ Qs t)) := by
  refine zMetH_of (ls := [some (.ref x), some (.int p1), some (.ref o), none]) (by decide +kernel) rfl rfl hX (Nat.le_of_ble_eq_true rfl) rfl ?_
  refine zr_aload_n dL_isDecided_0 rfl ?_
  refine zr_iconst (v := 0) dL_isDecided_1 (by decide) ?_
  refine zr_aload_n dL_isDecided_2 rfl ?_
  refine zr_iload_n dL_isDecided_3 rfl ?_
  refine zr_callVc (rest := [.int 0, .ref o]) dL_isDecided_4 vL_101 hm (Nat.le_refl _) (Nat.le_refl _) (Nat.le_refl _) rfl rfl (Nat.le_of_ble_eq_true rfl) hx (by decide) (fun v2 s1 h_ => ?_) (fun E s1 h_ => ?_)
  · obtain ⟨e, -⟩ := h_
    cases e
  · obtain ⟨e, hQ⟩ := h_
    cases e
    refine ⟨19, zHas0 lL_19 (by decide +kernel) rfl (by decide), fun q => ?_⟩
    refine zr_astore_n (ls' := [some (.ref x), some (.int p1), some (.ref o), some (.ref q)]) dL_isDecided_19 rfl (by decide) rfl ?_
    refine zr_iconst (v := 1) dL_isDecided_20 (by decide) ?_
    exact zr_ireturn dL_isDecided_21 rfl (rfl) (⟨_, rfl, rfl, hQ⟩)

set_option maxHeartbeats 400000 in
set_option maxRecDepth 100000 in
theorem wOK_isTangled {X : zX} (hX : X.1.stackTraces = false) {σ : zS} {x o d mc ms : Nat} {p1 : Int32} {fs : List Value} {Qs : zS → Prop} {v : Int32} {f : Nat → Int64} (hm : zMet X mX9_isTangled yX9_isTangled d mc ms [.ref x, .int p1] σ (zI (fun r s => r = v ∧ Qs s))) (hx : σ.1 x = .inr (7, fs)) (ho : ∀ σ2, Qs σ2 → σ2.1 o = .inl (3, 1, .inr (.inl f))) : zMetH X mL_isTangled yL_isTangled (d + 1) mc ms [.ref x, .int p1, .ref o] σ (zI (fun r t => r = 0 ∧ ∃ s, Qs s ∧ t = zup s o (.inl (3, 1, .inr (.inl (vp_updL f 0 (if v = 0 then 0 else 1))))))) := by
  refine zMetH_of (ls := [some (.ref x), some (.int p1), some (.ref o), none]) (by decide +kernel) rfl rfl hX (Nat.le_of_ble_eq_true rfl) rfl ?_
  refine zr_aload_n dL_isTangled_0 rfl ?_
  refine zr_iconst (v := 0) dL_isTangled_1 (by decide) ?_
  refine zr_aload_n dL_isTangled_2 rfl ?_
  refine zr_iload_n dL_isTangled_3 rfl ?_
  refine zr_callVc (rest := [.int 0, .ref o]) dL_isTangled_4 vL_104 hm (Nat.le_refl _) (Nat.le_refl _) (Nat.le_refl _) rfl rfl (Nat.le_of_ble_eq_true rfl) hx (by decide) (fun v2 s1 h_ => ?_) (fun E s1 h_ => ?_)
  · obtain ⟨r, e, e2, hQ⟩ := h_
    cases e
    rw [e2]
    have ko := ho s1 hQ
    refine zr_if_eq (tgt := 14) dL_isTangled_7 (by decide) (fun c_7 => ?_) (fun c_7 => ?_)
    · refine zr_lconst (v := 0) dL_isTangled_14 (by decide) ?_
      refine zr_lastore dL_isTangled_15 ko (vp_in_nI (n := 0) (by omega) (by omega)) ?_
      rw [show (0 : Int32).toNatClampNeg = 0 from by decide]
      refine zr_sig (fun ks1 e_ks1 => ?_)
      have kh2 : ks1.1 o = .inl (3, 1, .inr (.inl (vp_updL f 0 0))) := by rw [e_ks1]; exact zup_at _ _ _
      refine zr_goto (tgt := 22) dL_isTangled_16 (by decide) ?_
      refine zr_iconst (v := 0) dL_isTangled_22 (by decide) ?_
      exact zr_ireturn dL_isTangled_23 rfl (rfl) (⟨_, rfl, rfl, s1, hQ, by rw [e_ks1, if_pos c_7]⟩)
    · refine zr_lconst (v := 1) dL_isTangled_10 (by decide) ?_
      refine zr_goto (tgt := 15) dL_isTangled_11 (by decide) ?_
      refine zr_lastore dL_isTangled_15 ko (vp_in_nI (n := 0) (by omega) (by omega)) ?_
      rw [show (0 : Int32).toNatClampNeg = 0 from by decide]
      refine zr_sig (fun ks3 e_ks3 => ?_)
      have kh4 : ks3.1 o = .inl (3, 1, .inr (.inl (vp_updL f 0 1))) := by rw [e_ks3]; exact zup_at _ _ _
      refine zr_goto (tgt := 22) dL_isTangled_16 (by decide) ?_
      refine zr_iconst (v := 0) dL_isTangled_22 (by decide) ?_
      exact zr_ireturn dL_isTangled_23 rfl (rfl) (⟨_, rfl, rfl, s1, hQ, by rw [e_ks3, if_neg c_7]⟩)
  · obtain ⟨r, e, -⟩ := h_
    cases e

set_option maxHeartbeats 400000 in
set_option maxRecDepth 100000 in
theorem wN1_isTangled {X : zX} (hX : X.1.stackTraces = false) {σ : zS} {x o d mc ms : Nat} {p1 : Int32} {fs : List Value} {Qs : zS → Prop} (hm : zMet X mX9_isTangled yX9_isTangled d mc ms [.ref x, .int p1] σ (fun o_ s => o_ = .inr "java/lang/IndexOutOfBoundsException" ∧ Qs s)) (hx : σ.1 x = .inr (7, fs)) : zMetH X mL_isTangled yL_isTangled (d + 1) mc ms [.ref x, .int p1, .ref o] σ (zI (fun r t => r = 1 ∧ Qs t)) := by
  refine zMetH_of (ls := [some (.ref x), some (.int p1), some (.ref o), none]) (by decide +kernel) rfl rfl hX (Nat.le_of_ble_eq_true rfl) rfl ?_
  refine zr_aload_n dL_isTangled_0 rfl ?_
  refine zr_iconst (v := 0) dL_isTangled_1 (by decide) ?_
  refine zr_aload_n dL_isTangled_2 rfl ?_
  refine zr_iload_n dL_isTangled_3 rfl ?_
  refine zr_callVc (rest := [.int 0, .ref o]) dL_isTangled_4 vL_104 hm (Nat.le_refl _) (Nat.le_refl _) (Nat.le_refl _) rfl rfl (Nat.le_of_ble_eq_true rfl) hx (by decide) (fun v2 s1 h_ => ?_) (fun E s1 h_ => ?_)
  · obtain ⟨e, -⟩ := h_
    cases e
  · obtain ⟨e, hQ⟩ := h_
    cases e
    refine ⟨19, zHas0 lL_19 (by decide +kernel) rfl (by decide), fun q => ?_⟩
    refine zr_astore_n (ls' := [some (.ref x), some (.int p1), some (.ref o), some (.ref q)]) dL_isTangled_19 rfl (by decide) rfl ?_
    refine zr_iconst (v := 1) dL_isTangled_20 (by decide) ?_
    exact zr_ireturn dL_isTangled_21 rfl (rfl) (⟨_, rfl, rfl, hQ⟩)

set_option maxHeartbeats 400000 in
set_option maxRecDepth 100000 in
theorem wOK_precedentOf {X : zX} (hX : X.1.stackTraces = false) {σ : zS} {x o d mc ms : Nat} {p1 : Int32} {fs : List Value} {Qs : zS → Prop} {v : Int32} {f : Nat → Int64} (hm : zMet X mX9_precedentOf yX9_precedentOf d mc ms [.ref x, .int p1] σ (zI (fun r s => r = v ∧ Qs s))) (hx : σ.1 x = .inr (7, fs)) (ho : ∀ σ2, Qs σ2 → σ2.1 o = .inl (3, 1, .inr (.inl f))) : zMetH X mL_precedentOf yL_precedentOf (d + 1) mc ms [.ref x, .int p1, .ref o] σ (zI (fun r t => r = 0 ∧ ∃ s, Qs s ∧ t = zup s o (.inl (3, 1, .inr (.inl (vp_updL f 0 v.toInt64)))))) := by
  refine zMetH_of (ls := [some (.ref x), some (.int p1), some (.ref o), none]) (by decide +kernel) rfl rfl hX (Nat.le_of_ble_eq_true rfl) rfl ?_
  refine zr_aload_n dL_precedentOf_0 rfl ?_
  refine zr_iconst (v := 0) dL_precedentOf_1 (by decide) ?_
  refine zr_aload_n dL_precedentOf_2 rfl ?_
  refine zr_iload_n dL_precedentOf_3 rfl ?_
  refine zr_callVc (rest := [.int 0, .ref o]) dL_precedentOf_4 vL_107 hm (Nat.le_refl _) (Nat.le_refl _) (Nat.le_refl _) rfl rfl (Nat.le_of_ble_eq_true rfl) hx (by decide) (fun v2 s1 h_ => ?_) (fun E s1 h_ => ?_)
  · obtain ⟨r, e, e2, hQ⟩ := h_
    cases e
    rw [e2]
    have ko := ho s1 hQ
    refine zr_i2l dL_precedentOf_7 ?_
    refine zr_lastore dL_precedentOf_8 ko (vp_in_nI (n := 0) (by omega) (by omega)) ?_
    rw [show (0 : Int32).toNatClampNeg = 0 from by decide]
    refine zr_sig (fun ks1 e_ks1 => ?_)
    have kh2 : ks1.1 o = .inl (3, 1, .inr (.inl (vp_updL f 0 ((v).toInt64)))) := by rw [e_ks1]; exact zup_at _ _ _
    refine zr_goto (tgt := 18) dL_precedentOf_9 (by decide) ?_
    refine zr_iconst (v := 0) dL_precedentOf_18 (by decide) ?_
    exact zr_ireturn dL_precedentOf_19 rfl (rfl) (⟨_, rfl, rfl, s1, hQ, by rw [e_ks1]⟩)
  · obtain ⟨r, e, -⟩ := h_
    cases e

set_option maxHeartbeats 400000 in
set_option maxRecDepth 100000 in
theorem wN1_precedentOf {X : zX} (hX : X.1.stackTraces = false) {σ : zS} {x o d mc ms : Nat} {p1 : Int32} {fs : List Value} {Qs : zS → Prop} (hm : zMet X mX9_precedentOf yX9_precedentOf d mc ms [.ref x, .int p1] σ (fun o_ s => o_ = .inr "java/lang/IndexOutOfBoundsException" ∧ Qs s)) (hx : σ.1 x = .inr (7, fs)) : zMetH X mL_precedentOf yL_precedentOf (d + 1) mc ms [.ref x, .int p1, .ref o] σ (zI (fun r t => r = 1 ∧ Qs t)) := by
  refine zMetH_of (ls := [some (.ref x), some (.int p1), some (.ref o), none]) (by decide +kernel) rfl rfl hX (Nat.le_of_ble_eq_true rfl) rfl ?_
  refine zr_aload_n dL_precedentOf_0 rfl ?_
  refine zr_iconst (v := 0) dL_precedentOf_1 (by decide) ?_
  refine zr_aload_n dL_precedentOf_2 rfl ?_
  refine zr_iload_n dL_precedentOf_3 rfl ?_
  refine zr_callVc (rest := [.int 0, .ref o]) dL_precedentOf_4 vL_107 hm (Nat.le_refl _) (Nat.le_refl _) (Nat.le_refl _) rfl rfl (Nat.le_of_ble_eq_true rfl) hx (by decide) (fun v2 s1 h_ => ?_) (fun E s1 h_ => ?_)
  · obtain ⟨e, -⟩ := h_
    cases e
  · obtain ⟨e, hQ⟩ := h_
    cases e
    refine ⟨12, zHas0 lL_19 (by decide +kernel) rfl (by decide), fun q => ?_⟩
    refine zr_astore_n (ls' := [some (.ref x), some (.int p1), some (.ref o), some (.ref q)]) dL_precedentOf_12 rfl (by decide) rfl ?_
    refine zr_iconst (v := 1) dL_precedentOf_13 (by decide) ?_
    exact zr_ireturn dL_precedentOf_14 rfl (rfl) (⟨_, rfl, rfl, hQ⟩)

set_option maxHeartbeats 400000 in
set_option maxRecDepth 100000 in
theorem wN2_precedentOf {X : zX} (hX : X.1.stackTraces = false) {σ : zS} {x o d mc ms : Nat} {p1 : Int32} {fs : List Value} {Qs : zS → Prop} (hm : zMet X mX9_precedentOf yX9_precedentOf d mc ms [.ref x, .int p1] σ (fun o_ s => o_ = .inr "java/util/NoSuchElementException" ∧ Qs s)) (hx : σ.1 x = .inr (7, fs)) : zMetH X mL_precedentOf yL_precedentOf (d + 1) mc ms [.ref x, .int p1, .ref o] σ (zI (fun r t => r = 2 ∧ Qs t)) := by
  refine zMetH_of (ls := [some (.ref x), some (.int p1), some (.ref o), none]) (by decide +kernel) rfl rfl hX (Nat.le_of_ble_eq_true rfl) rfl ?_
  refine zr_aload_n dL_precedentOf_0 rfl ?_
  refine zr_iconst (v := 0) dL_precedentOf_1 (by decide) ?_
  refine zr_aload_n dL_precedentOf_2 rfl ?_
  refine zr_iload_n dL_precedentOf_3 rfl ?_
  refine zr_callVc (rest := [.int 0, .ref o]) dL_precedentOf_4 vL_107 hm (Nat.le_refl _) (Nat.le_refl _) (Nat.le_refl _) rfl rfl (Nat.le_of_ble_eq_true rfl) hx (by decide) (fun v2 s1 h_ => ?_) (fun E s1 h_ => ?_)
  · obtain ⟨e, -⟩ := h_
    cases e
  · obtain ⟨e, hQ⟩ := h_
    cases e
    refine ⟨15, zHasS lL_19 (by decide +kernel) (by decide) (zHas0 lL_41 (by decide +kernel) rfl (by decide)), fun q => ?_⟩
    refine zr_astore_n (ls' := [some (.ref x), some (.int p1), some (.ref o), some (.ref q)]) dL_precedentOf_15 rfl (by decide) rfl ?_
    refine zr_iconst (v := 2) dL_precedentOf_16 (by decide) ?_
    exact zr_ireturn dL_precedentOf_17 rfl (rfl) (⟨_, rfl, rfl, hQ⟩)

set_option maxHeartbeats 400000 in
set_option maxRecDepth 100000 in
theorem wOK_findPrecedent {X : zX} (hX : X.1.stackTraces = false) {σ : zS} {x o d mc ms : Nat} {p1 : Int32} {fs : List Value} {Qs : zS → Prop} {v : Int32} {f : Nat → Int64} (hm : zMet X mX9_findPrecedent yX9_findPrecedent d mc ms [.ref x, .int p1] σ (zI (fun r s => r = v ∧ Qs s))) (hx : σ.1 x = .inr (7, fs)) (ho : ∀ σ2, Qs σ2 → σ2.1 o = .inl (3, 1, .inr (.inl f))) : zMetH X mL_findPrecedent yL_findPrecedent (d + 1) mc ms [.ref x, .int p1, .ref o] σ (zI (fun r t => r = 0 ∧ ∃ s, Qs s ∧ t = zup s o (.inl (3, 1, .inr (.inl (vp_updL f 0 v.toInt64)))))) := by
  refine zMetH_of (ls := [some (.ref x), some (.int p1), some (.ref o), none]) (by decide +kernel) rfl rfl hX (Nat.le_of_ble_eq_true rfl) rfl ?_
  refine zr_aload_n dL_findPrecedent_0 rfl ?_
  refine zr_iconst (v := 0) dL_findPrecedent_1 (by decide) ?_
  refine zr_aload_n dL_findPrecedent_2 rfl ?_
  refine zr_iload_n dL_findPrecedent_3 rfl ?_
  refine zr_callVc (rest := [.int 0, .ref o]) dL_findPrecedent_4 vL_110 hm (Nat.le_refl _) (Nat.le_refl _) (Nat.le_refl _) rfl rfl (Nat.le_of_ble_eq_true rfl) hx (by decide) (fun v2 s1 h_ => ?_) (fun E s1 h_ => ?_)
  · obtain ⟨r, e, e2, hQ⟩ := h_
    cases e
    rw [e2]
    have ko := ho s1 hQ
    refine zr_i2l dL_findPrecedent_7 ?_
    refine zr_lastore dL_findPrecedent_8 ko (vp_in_nI (n := 0) (by omega) (by omega)) ?_
    rw [show (0 : Int32).toNatClampNeg = 0 from by decide]
    refine zr_sig (fun ks1 e_ks1 => ?_)
    have kh2 : ks1.1 o = .inl (3, 1, .inr (.inl (vp_updL f 0 ((v).toInt64)))) := by rw [e_ks1]; exact zup_at _ _ _
    refine zr_goto (tgt := 18) dL_findPrecedent_9 (by decide) ?_
    refine zr_iconst (v := 0) dL_findPrecedent_18 (by decide) ?_
    exact zr_ireturn dL_findPrecedent_19 rfl (rfl) (⟨_, rfl, rfl, s1, hQ, by rw [e_ks1]⟩)
  · obtain ⟨r, e, -⟩ := h_
    cases e

set_option maxHeartbeats 400000 in
set_option maxRecDepth 100000 in
theorem wN1_findPrecedent {X : zX} (hX : X.1.stackTraces = false) {σ : zS} {x o d mc ms : Nat} {p1 : Int32} {fs : List Value} {Qs : zS → Prop} (hm : zMet X mX9_findPrecedent yX9_findPrecedent d mc ms [.ref x, .int p1] σ (fun o_ s => o_ = .inr "java/lang/IndexOutOfBoundsException" ∧ Qs s)) (hx : σ.1 x = .inr (7, fs)) : zMetH X mL_findPrecedent yL_findPrecedent (d + 1) mc ms [.ref x, .int p1, .ref o] σ (zI (fun r t => r = 1 ∧ Qs t)) := by
  refine zMetH_of (ls := [some (.ref x), some (.int p1), some (.ref o), none]) (by decide +kernel) rfl rfl hX (Nat.le_of_ble_eq_true rfl) rfl ?_
  refine zr_aload_n dL_findPrecedent_0 rfl ?_
  refine zr_iconst (v := 0) dL_findPrecedent_1 (by decide) ?_
  refine zr_aload_n dL_findPrecedent_2 rfl ?_
  refine zr_iload_n dL_findPrecedent_3 rfl ?_
  refine zr_callVc (rest := [.int 0, .ref o]) dL_findPrecedent_4 vL_110 hm (Nat.le_refl _) (Nat.le_refl _) (Nat.le_refl _) rfl rfl (Nat.le_of_ble_eq_true rfl) hx (by decide) (fun v2 s1 h_ => ?_) (fun E s1 h_ => ?_)
  · obtain ⟨e, -⟩ := h_
    cases e
  · obtain ⟨e, hQ⟩ := h_
    cases e
    refine ⟨12, zHas0 lL_19 (by decide +kernel) rfl (by decide), fun q => ?_⟩
    refine zr_astore_n (ls' := [some (.ref x), some (.int p1), some (.ref o), some (.ref q)]) dL_findPrecedent_12 rfl (by decide) rfl ?_
    refine zr_iconst (v := 1) dL_findPrecedent_13 (by decide) ?_
    exact zr_ireturn dL_findPrecedent_14 rfl (rfl) (⟨_, rfl, rfl, hQ⟩)

set_option maxHeartbeats 400000 in
set_option maxRecDepth 100000 in
theorem wN2_findPrecedent {X : zX} (hX : X.1.stackTraces = false) {σ : zS} {x o d mc ms : Nat} {p1 : Int32} {fs : List Value} {Qs : zS → Prop} (hm : zMet X mX9_findPrecedent yX9_findPrecedent d mc ms [.ref x, .int p1] σ (fun o_ s => o_ = .inr "java/util/NoSuchElementException" ∧ Qs s)) (hx : σ.1 x = .inr (7, fs)) : zMetH X mL_findPrecedent yL_findPrecedent (d + 1) mc ms [.ref x, .int p1, .ref o] σ (zI (fun r t => r = 2 ∧ Qs t)) := by
  refine zMetH_of (ls := [some (.ref x), some (.int p1), some (.ref o), none]) (by decide +kernel) rfl rfl hX (Nat.le_of_ble_eq_true rfl) rfl ?_
  refine zr_aload_n dL_findPrecedent_0 rfl ?_
  refine zr_iconst (v := 0) dL_findPrecedent_1 (by decide) ?_
  refine zr_aload_n dL_findPrecedent_2 rfl ?_
  refine zr_iload_n dL_findPrecedent_3 rfl ?_
  refine zr_callVc (rest := [.int 0, .ref o]) dL_findPrecedent_4 vL_110 hm (Nat.le_refl _) (Nat.le_refl _) (Nat.le_refl _) rfl rfl (Nat.le_of_ble_eq_true rfl) hx (by decide) (fun v2 s1 h_ => ?_) (fun E s1 h_ => ?_)
  · obtain ⟨e, -⟩ := h_
    cases e
  · obtain ⟨e, hQ⟩ := h_
    cases e
    refine ⟨15, zHasS lL_19 (by decide +kernel) (by decide) (zHas0 lL_41 (by decide +kernel) rfl (by decide)), fun q => ?_⟩
    refine zr_astore_n (ls' := [some (.ref x), some (.int p1), some (.ref o), some (.ref q)]) dL_findPrecedent_15 rfl (by decide) rfl ?_
    refine zr_iconst (v := 2) dL_findPrecedent_16 (by decide) ?_
    exact zr_ireturn dL_findPrecedent_17 rfl (rfl) (⟨_, rfl, rfl, hQ⟩)

set_option maxHeartbeats 400000 in
set_option maxRecDepth 100000 in
theorem wOK_isAppealed {X : zX} (hX : X.1.stackTraces = false) {σ : zS} {x o d mc ms : Nat} {p1 : Int32} {fs : List Value} {Qs : zS → Prop} {v : Int32} {f : Nat → Int64} (hm : zMet X mX9_isAppealed yX9_isAppealed d mc ms [.ref x, .int p1] σ (zI (fun r s => r = v ∧ Qs s))) (hx : σ.1 x = .inr (7, fs)) (ho : ∀ σ2, Qs σ2 → σ2.1 o = .inl (3, 1, .inr (.inl f))) : zMetH X mL_isAppealed yL_isAppealed (d + 1) mc ms [.ref x, .int p1, .ref o] σ (zI (fun r t => r = 0 ∧ ∃ s, Qs s ∧ t = zup s o (.inl (3, 1, .inr (.inl (vp_updL f 0 (if v = 0 then 0 else 1))))))) := by
  refine zMetH_of (ls := [some (.ref x), some (.int p1), some (.ref o), none]) (by decide +kernel) rfl rfl hX (Nat.le_of_ble_eq_true rfl) rfl ?_
  refine zr_aload_n dL_isAppealed_0 rfl ?_
  refine zr_iconst (v := 0) dL_isAppealed_1 (by decide) ?_
  refine zr_aload_n dL_isAppealed_2 rfl ?_
  refine zr_iload_n dL_isAppealed_3 rfl ?_
  refine zr_callVc (rest := [.int 0, .ref o]) dL_isAppealed_4 vL_113 hm (Nat.le_refl _) (Nat.le_refl _) (Nat.le_refl _) rfl rfl (Nat.le_of_ble_eq_true rfl) hx (by decide) (fun v2 s1 h_ => ?_) (fun E s1 h_ => ?_)
  · obtain ⟨r, e, e2, hQ⟩ := h_
    cases e
    rw [e2]
    have ko := ho s1 hQ
    refine zr_if_eq (tgt := 14) dL_isAppealed_7 (by decide) (fun c_7 => ?_) (fun c_7 => ?_)
    · refine zr_lconst (v := 0) dL_isAppealed_14 (by decide) ?_
      refine zr_lastore dL_isAppealed_15 ko (vp_in_nI (n := 0) (by omega) (by omega)) ?_
      rw [show (0 : Int32).toNatClampNeg = 0 from by decide]
      refine zr_sig (fun ks1 e_ks1 => ?_)
      have kh2 : ks1.1 o = .inl (3, 1, .inr (.inl (vp_updL f 0 0))) := by rw [e_ks1]; exact zup_at _ _ _
      refine zr_goto (tgt := 22) dL_isAppealed_16 (by decide) ?_
      refine zr_iconst (v := 0) dL_isAppealed_22 (by decide) ?_
      exact zr_ireturn dL_isAppealed_23 rfl (rfl) (⟨_, rfl, rfl, s1, hQ, by rw [e_ks1, if_pos c_7]⟩)
    · refine zr_lconst (v := 1) dL_isAppealed_10 (by decide) ?_
      refine zr_goto (tgt := 15) dL_isAppealed_11 (by decide) ?_
      refine zr_lastore dL_isAppealed_15 ko (vp_in_nI (n := 0) (by omega) (by omega)) ?_
      rw [show (0 : Int32).toNatClampNeg = 0 from by decide]
      refine zr_sig (fun ks3 e_ks3 => ?_)
      have kh4 : ks3.1 o = .inl (3, 1, .inr (.inl (vp_updL f 0 1))) := by rw [e_ks3]; exact zup_at _ _ _
      refine zr_goto (tgt := 22) dL_isAppealed_16 (by decide) ?_
      refine zr_iconst (v := 0) dL_isAppealed_22 (by decide) ?_
      exact zr_ireturn dL_isAppealed_23 rfl (rfl) (⟨_, rfl, rfl, s1, hQ, by rw [e_ks3, if_neg c_7]⟩)
  · obtain ⟨r, e, -⟩ := h_
    cases e

set_option maxHeartbeats 400000 in
set_option maxRecDepth 100000 in
theorem wN1_isAppealed {X : zX} (hX : X.1.stackTraces = false) {σ : zS} {x o d mc ms : Nat} {p1 : Int32} {fs : List Value} {Qs : zS → Prop} (hm : zMet X mX9_isAppealed yX9_isAppealed d mc ms [.ref x, .int p1] σ (fun o_ s => o_ = .inr "java/lang/IndexOutOfBoundsException" ∧ Qs s)) (hx : σ.1 x = .inr (7, fs)) : zMetH X mL_isAppealed yL_isAppealed (d + 1) mc ms [.ref x, .int p1, .ref o] σ (zI (fun r t => r = 1 ∧ Qs t)) := by
  refine zMetH_of (ls := [some (.ref x), some (.int p1), some (.ref o), none]) (by decide +kernel) rfl rfl hX (Nat.le_of_ble_eq_true rfl) rfl ?_
  refine zr_aload_n dL_isAppealed_0 rfl ?_
  refine zr_iconst (v := 0) dL_isAppealed_1 (by decide) ?_
  refine zr_aload_n dL_isAppealed_2 rfl ?_
  refine zr_iload_n dL_isAppealed_3 rfl ?_
  refine zr_callVc (rest := [.int 0, .ref o]) dL_isAppealed_4 vL_113 hm (Nat.le_refl _) (Nat.le_refl _) (Nat.le_refl _) rfl rfl (Nat.le_of_ble_eq_true rfl) hx (by decide) (fun v2 s1 h_ => ?_) (fun E s1 h_ => ?_)
  · obtain ⟨e, -⟩ := h_
    cases e
  · obtain ⟨e, hQ⟩ := h_
    cases e
    refine ⟨19, zHas0 lL_19 (by decide +kernel) rfl (by decide), fun q => ?_⟩
    refine zr_astore_n (ls' := [some (.ref x), some (.int p1), some (.ref o), some (.ref q)]) dL_isAppealed_19 rfl (by decide) rfl ?_
    refine zr_iconst (v := 1) dL_isAppealed_20 (by decide) ?_
    exact zr_ireturn dL_isAppealed_21 rfl (rfl) (⟨_, rfl, rfl, hQ⟩)

set_option maxHeartbeats 400000 in
set_option maxRecDepth 100000 in
theorem wOK_casesOn {X : zX} (hX : X.1.stackTraces = false) {σ : zS} {x o d mc ms : Nat} {p1 : Int32} {fs : List Value} {Qs : zS → Prop} {v : Int32} {f : Nat → Int64} (hm : zMet X mX9_casesOn yX9_casesOn d mc ms [.ref x, .int p1] σ (zI (fun r s => r = v ∧ Qs s))) (hx : σ.1 x = .inr (7, fs)) (ho : ∀ σ2, Qs σ2 → σ2.1 o = .inl (3, 1, .inr (.inl f))) : zMetH X mL_casesOn yL_casesOn (d + 1) mc ms [.ref x, .int p1, .ref o] σ (zI (fun r t => r = 0 ∧ ∃ s, Qs s ∧ t = zup s o (.inl (3, 1, .inr (.inl (vp_updL f 0 v.toInt64)))))) := by
  refine zMetH_of (ls := [some (.ref x), some (.int p1), some (.ref o), none]) (by decide +kernel) rfl rfl hX (Nat.le_of_ble_eq_true rfl) rfl ?_
  refine zr_aload_n dL_casesOn_0 rfl ?_
  refine zr_iconst (v := 0) dL_casesOn_1 (by decide) ?_
  refine zr_aload_n dL_casesOn_2 rfl ?_
  refine zr_iload_n dL_casesOn_3 rfl ?_
  refine zr_callVc (rest := [.int 0, .ref o]) dL_casesOn_4 vL_116 hm (Nat.le_refl _) (Nat.le_refl _) (Nat.le_refl _) rfl rfl (Nat.le_of_ble_eq_true rfl) hx (by decide) (fun v2 s1 h_ => ?_) (fun E s1 h_ => ?_)
  · obtain ⟨r, e, e2, hQ⟩ := h_
    cases e
    rw [e2]
    have ko := ho s1 hQ
    refine zr_i2l dL_casesOn_7 ?_
    refine zr_lastore dL_casesOn_8 ko (vp_in_nI (n := 0) (by omega) (by omega)) ?_
    rw [show (0 : Int32).toNatClampNeg = 0 from by decide]
    refine zr_sig (fun ks1 e_ks1 => ?_)
    have kh2 : ks1.1 o = .inl (3, 1, .inr (.inl (vp_updL f 0 ((v).toInt64)))) := by rw [e_ks1]; exact zup_at _ _ _
    refine zr_goto (tgt := 15) dL_casesOn_9 (by decide) ?_
    refine zr_iconst (v := 0) dL_casesOn_15 (by decide) ?_
    exact zr_ireturn dL_casesOn_16 rfl (rfl) (⟨_, rfl, rfl, s1, hQ, by rw [e_ks1]⟩)
  · obtain ⟨r, e, -⟩ := h_
    cases e

set_option maxHeartbeats 400000 in
set_option maxRecDepth 100000 in
theorem wN1_casesOn {X : zX} (hX : X.1.stackTraces = false) {σ : zS} {x o d mc ms : Nat} {p1 : Int32} {fs : List Value} {Qs : zS → Prop} (hm : zMet X mX9_casesOn yX9_casesOn d mc ms [.ref x, .int p1] σ (fun o_ s => o_ = .inr "java/lang/IndexOutOfBoundsException" ∧ Qs s)) (hx : σ.1 x = .inr (7, fs)) : zMetH X mL_casesOn yL_casesOn (d + 1) mc ms [.ref x, .int p1, .ref o] σ (zI (fun r t => r = 1 ∧ Qs t)) := by
  refine zMetH_of (ls := [some (.ref x), some (.int p1), some (.ref o), none]) (by decide +kernel) rfl rfl hX (Nat.le_of_ble_eq_true rfl) rfl ?_
  refine zr_aload_n dL_casesOn_0 rfl ?_
  refine zr_iconst (v := 0) dL_casesOn_1 (by decide) ?_
  refine zr_aload_n dL_casesOn_2 rfl ?_
  refine zr_iload_n dL_casesOn_3 rfl ?_
  refine zr_callVc (rest := [.int 0, .ref o]) dL_casesOn_4 vL_116 hm (Nat.le_refl _) (Nat.le_refl _) (Nat.le_refl _) rfl rfl (Nat.le_of_ble_eq_true rfl) hx (by decide) (fun v2 s1 h_ => ?_) (fun E s1 h_ => ?_)
  · obtain ⟨e, -⟩ := h_
    cases e
  · obtain ⟨e, hQ⟩ := h_
    cases e
    refine ⟨12, zHas0 lL_19 (by decide +kernel) rfl (by decide), fun q => ?_⟩
    refine zr_astore_n (ls' := [some (.ref x), some (.int p1), some (.ref o), some (.ref q)]) dL_casesOn_12 rfl (by decide) rfl ?_
    refine zr_iconst (v := 1) dL_casesOn_13 (by decide) ?_
    exact zr_ireturn dL_casesOn_14 rfl (rfl) (⟨_, rfl, rfl, hQ⟩)

set_option maxHeartbeats 400000 in
set_option maxRecDepth 100000 in
theorem wOK_meanLength {X : zX} (hX : X.1.stackTraces = false) {σ : zS} {x o d mc ms : Nat} {fs : List Value} {Qs : zS → Prop} {v : UInt64} {f : Nat → UInt64} (hm : zMet X mX9_meanLength yX9_meanLength d mc ms [.ref x] σ (zDb (fun r s => r = v ∧ Qs s))) (hx : σ.1 x = .inr (7, fs)) (ho : ∀ σ2, Qs σ2 → σ2.1 o = .inl (4, 1, .inr (.inr (.inr (.inl f))))) : zMetH X mL_meanLength yL_meanLength (d + 1) mc ms [.ref x, .ref o] σ (zI (fun r t => r = 0 ∧ ∃ s, Qs s ∧ t = zup s o (.inl (4, 1, .inr (.inr (.inr (.inl (vf_upd f 0 v)))))))) := by
  refine zMetH_of (ls := [some (.ref x), some (.ref o), none]) (by decide +kernel) rfl rfl hX (Nat.le_of_ble_eq_true rfl) rfl ?_
  refine zr_aload_n dL_meanLength_0 rfl ?_
  refine zr_iconst (v := 0) dL_meanLength_1 (by decide) ?_
  refine zr_aload_n dL_meanLength_2 rfl ?_
  refine zr_callVc (rest := [.int 0, .ref o]) dL_meanLength_3 vL_119 hm (Nat.le_refl _) (Nat.le_refl _) (Nat.le_refl _) rfl rfl (Nat.le_of_ble_eq_true rfl) hx (by decide) (fun v2 s1 h_ => ?_) (fun E s1 h_ => ?_)
  · obtain ⟨r, e, e2, hQ⟩ := h_
    cases e
    rw [e2]
    have ko := ho s1 hQ
    refine zr_dastore dL_meanLength_6 ko (vp_in_nI (n := 0) (by omega) (by omega)) ?_
    rw [show (0 : Int32).toNatClampNeg = 0 from by decide]
    refine zr_sig (fun ks1 e_ks1 => ?_)
    have kh2 : ks1.1 o = .inl (4, 1, .inr (.inr (.inr (.inl (vf_upd f 0 v))))) := by rw [e_ks1]; exact zup_at _ _ _
    refine zr_goto (tgt := 13) dL_meanLength_7 (by decide) ?_
    refine zr_iconst (v := 0) dL_meanLength_13 (by decide) ?_
    exact zr_ireturn dL_meanLength_14 rfl (rfl) (⟨_, rfl, rfl, s1, hQ, by rw [e_ks1]⟩)
  · obtain ⟨r, e, -⟩ := h_
    cases e

set_option maxHeartbeats 400000 in
set_option maxRecDepth 100000 in
theorem wN1_meanLength {X : zX} (hX : X.1.stackTraces = false) {σ : zS} {x o d mc ms : Nat} {fs : List Value} {Qs : zS → Prop} (hm : zMet X mX9_meanLength yX9_meanLength d mc ms [.ref x] σ (fun o_ s => o_ = .inr "java/lang/ArithmeticException" ∧ Qs s)) (hx : σ.1 x = .inr (7, fs)) : zMetH X mL_meanLength yL_meanLength (d + 1) mc ms [.ref x, .ref o] σ (zI (fun r t => r = 1 ∧ Qs t)) := by
  refine zMetH_of (ls := [some (.ref x), some (.ref o), none]) (by decide +kernel) rfl rfl hX (Nat.le_of_ble_eq_true rfl) rfl ?_
  refine zr_aload_n dL_meanLength_0 rfl ?_
  refine zr_iconst (v := 0) dL_meanLength_1 (by decide) ?_
  refine zr_aload_n dL_meanLength_2 rfl ?_
  refine zr_callVc (rest := [.int 0, .ref o]) dL_meanLength_3 vL_119 hm (Nat.le_refl _) (Nat.le_refl _) (Nat.le_refl _) rfl rfl (Nat.le_of_ble_eq_true rfl) hx (by decide) (fun v2 s1 h_ => ?_) (fun E s1 h_ => ?_)
  · obtain ⟨e, -⟩ := h_
    cases e
  · obtain ⟨e, hQ⟩ := h_
    cases e
    refine ⟨10, zHas0 lL_123 (by decide +kernel) rfl (by decide), fun q => ?_⟩
    refine zr_astore_n (ls' := [some (.ref x), some (.ref o), some (.ref q)]) dL_meanLength_10 rfl (by decide) rfl ?_
    refine zr_iconst (v := 1) dL_meanLength_11 (by decide) ?_
    exact zr_ireturn dL_meanLength_12 rfl (rfl) (⟨_, rfl, rfl, hQ⟩)

set_option maxHeartbeats 400000 in
set_option maxRecDepth 100000 in
theorem wOK_freedShare {X : zX} (hX : X.1.stackTraces = false) {σ : zS} {x o d mc ms : Nat} {fs : List Value} {Qs : zS → Prop} {v : UInt32} {f : Nat → UInt64} (hm : zMet X mX9_freedShare yX9_freedShare d mc ms [.ref x] σ (zF (fun r s => r = v ∧ Qs s))) (hx : σ.1 x = .inr (7, fs)) (hn : vf_n64 (FP.f2d v)) (ho : ∀ σ2, Qs σ2 → σ2.1 o = .inl (4, 1, .inr (.inr (.inr (.inl f))))) : zMetH X mL_freedShare yL_freedShare (d + 1) mc ms [.ref x, .ref o] σ (zI (fun r t => r = 0 ∧ ∃ s, Qs s ∧ t = zup s o (.inl (4, 1, .inr (.inr (.inr (.inl (vf_upd f 0 (FP.f2d v))))))))) := by
  refine zMetH_of (ls := [some (.ref x), some (.ref o), none]) (by decide +kernel) rfl rfl hX (Nat.le_of_ble_eq_true rfl) rfl ?_
  refine zr_aload_n dL_freedShare_0 rfl ?_
  refine zr_iconst (v := 0) dL_freedShare_1 (by decide) ?_
  refine zr_aload_n dL_freedShare_2 rfl ?_
  refine zr_callVc (rest := [.int 0, .ref o]) dL_freedShare_3 vL_125 hm (Nat.le_refl _) (Nat.le_refl _) (Nat.le_refl _) rfl rfl (Nat.le_of_ble_eq_true rfl) hx (by decide) (fun v2 s1 h_ => ?_) (fun E s1 h_ => ?_)
  · obtain ⟨r, e, e2, hQ⟩ := h_
    cases e
    rw [e2]
    have ko := ho s1 hQ
    refine zr_f2d dL_freedShare_6 (hn) ?_
    refine zr_dastore dL_freedShare_7 ko (vp_in_nI (n := 0) (by omega) (by omega)) ?_
    rw [show (0 : Int32).toNatClampNeg = 0 from by decide]
    refine zr_sig (fun ks1 e_ks1 => ?_)
    have kh2 : ks1.1 o = .inl (4, 1, .inr (.inr (.inr (.inl (vf_upd f 0 (FP.f2d v)))))) := by rw [e_ks1]; exact zup_at _ _ _
    refine zr_goto (tgt := 14) dL_freedShare_8 (by decide) ?_
    refine zr_iconst (v := 0) dL_freedShare_14 (by decide) ?_
    exact zr_ireturn dL_freedShare_15 rfl (rfl) (⟨_, rfl, rfl, s1, hQ, by rw [e_ks1]⟩)
  · obtain ⟨r, e, -⟩ := h_
    cases e

set_option maxHeartbeats 400000 in
set_option maxRecDepth 100000 in
theorem wN1_freedShare {X : zX} (hX : X.1.stackTraces = false) {σ : zS} {x o d mc ms : Nat} {fs : List Value} {Qs : zS → Prop} (hm : zMet X mX9_freedShare yX9_freedShare d mc ms [.ref x] σ (fun o_ s => o_ = .inr "java/lang/ArithmeticException" ∧ Qs s)) (hx : σ.1 x = .inr (7, fs)) : zMetH X mL_freedShare yL_freedShare (d + 1) mc ms [.ref x, .ref o] σ (zI (fun r t => r = 1 ∧ Qs t)) := by
  refine zMetH_of (ls := [some (.ref x), some (.ref o), none]) (by decide +kernel) rfl rfl hX (Nat.le_of_ble_eq_true rfl) rfl ?_
  refine zr_aload_n dL_freedShare_0 rfl ?_
  refine zr_iconst (v := 0) dL_freedShare_1 (by decide) ?_
  refine zr_aload_n dL_freedShare_2 rfl ?_
  refine zr_callVc (rest := [.int 0, .ref o]) dL_freedShare_3 vL_125 hm (Nat.le_refl _) (Nat.le_refl _) (Nat.le_refl _) rfl rfl (Nat.le_of_ble_eq_true rfl) hx (by decide) (fun v2 s1 h_ => ?_) (fun E s1 h_ => ?_)
  · obtain ⟨e, -⟩ := h_
    cases e
  · obtain ⟨e, hQ⟩ := h_
    cases e
    refine ⟨11, zHas0 lL_123 (by decide +kernel) rfl (by decide), fun q => ?_⟩
    refine zr_astore_n (ls' := [some (.ref x), some (.ref o), some (.ref q)]) dL_freedShare_11 rfl (by decide) rfl ?_
    refine zr_iconst (v := 1) dL_freedShare_12 (by decide) ?_
    exact zr_ireturn dL_freedShare_13 rfl (rfl) (⟨_, rfl, rfl, hQ⟩)

set_option maxHeartbeats 400000 in
set_option maxRecDepth 100000 in
theorem wOK_feed {X : zX} (hX : X.1.stackTraces = false) {σ : zS} {x o d mc ms : Nat} {p1 : Int32} {fs : List Value} {Qs : zS → Prop} {v : Int32} {f : Nat → Int64} (hm : zMet X mX9_feed yX9_feed d mc ms [.ref x, .int p1] σ (zI (fun r s => r = v ∧ Qs s))) (hx : σ.1 x = .inr (7, fs)) (ho : ∀ σ2, Qs σ2 → σ2.1 o = .inl (3, 1, .inr (.inl f))) : zMetH X mL_feed yL_feed (d + 1) mc ms [.ref x, .int p1, .ref o] σ (zI (fun r t => r = 0 ∧ ∃ s, Qs s ∧ t = zup s o (.inl (3, 1, .inr (.inl (vp_updL f 0 v.toInt64)))))) := by
  refine zMetH_of (ls := [some (.ref x), some (.int p1), some (.ref o), none]) (by decide +kernel) rfl rfl hX (Nat.le_of_ble_eq_true rfl) rfl ?_
  refine zr_aload_n dL_feed_0 rfl ?_
  refine zr_iconst (v := 0) dL_feed_1 (by decide) ?_
  refine zr_aload_n dL_feed_2 rfl ?_
  refine zr_iload_n dL_feed_3 rfl ?_
  refine zr_callVc (rest := [.int 0, .ref o]) dL_feed_4 vL_129 hm (Nat.le_refl _) (Nat.le_refl _) (Nat.le_refl _) rfl rfl (Nat.le_of_ble_eq_true rfl) hx (by decide) (fun v2 s1 h_ => ?_) (fun E s1 h_ => ?_)
  · obtain ⟨r, e, e2, hQ⟩ := h_
    cases e
    rw [e2]
    have ko := ho s1 hQ
    refine zr_i2l dL_feed_7 ?_
    refine zr_lastore dL_feed_8 ko (vp_in_nI (n := 0) (by omega) (by omega)) ?_
    rw [show (0 : Int32).toNatClampNeg = 0 from by decide]
    refine zr_sig (fun ks1 e_ks1 => ?_)
    have kh2 : ks1.1 o = .inl (3, 1, .inr (.inl (vp_updL f 0 ((v).toInt64)))) := by rw [e_ks1]; exact zup_at _ _ _
    refine zr_goto (tgt := 15) dL_feed_9 (by decide) ?_
    refine zr_iconst (v := 0) dL_feed_15 (by decide) ?_
    exact zr_ireturn dL_feed_16 rfl (rfl) (⟨_, rfl, rfl, s1, hQ, by rw [e_ks1]⟩)
  · obtain ⟨r, e, -⟩ := h_
    cases e

set_option maxHeartbeats 400000 in
set_option maxRecDepth 100000 in
theorem wN1_feed {X : zX} (hX : X.1.stackTraces = false) {σ : zS} {x o d mc ms : Nat} {p1 : Int32} {fs : List Value} {Qs : zS → Prop} (hm : zMet X mX9_feed yX9_feed d mc ms [.ref x, .int p1] σ (fun o_ s => o_ = .inr "java/lang/IllegalStateException" ∧ Qs s)) (hx : σ.1 x = .inr (7, fs)) : zMetH X mL_feed yL_feed (d + 1) mc ms [.ref x, .int p1, .ref o] σ (zI (fun r t => r = 1 ∧ Qs t)) := by
  refine zMetH_of (ls := [some (.ref x), some (.int p1), some (.ref o), none]) (by decide +kernel) rfl rfl hX (Nat.le_of_ble_eq_true rfl) rfl ?_
  refine zr_aload_n dL_feed_0 rfl ?_
  refine zr_iconst (v := 0) dL_feed_1 (by decide) ?_
  refine zr_aload_n dL_feed_2 rfl ?_
  refine zr_iload_n dL_feed_3 rfl ?_
  refine zr_callVc (rest := [.int 0, .ref o]) dL_feed_4 vL_129 hm (Nat.le_refl _) (Nat.le_refl _) (Nat.le_refl _) rfl rfl (Nat.le_of_ble_eq_true rfl) hx (by decide) (fun v2 s1 h_ => ?_) (fun E s1 h_ => ?_)
  · obtain ⟨e, -⟩ := h_
    cases e
  · obtain ⟨e, hQ⟩ := h_
    cases e
    refine ⟨12, zHas0 lL_56 (by decide +kernel) rfl (by decide), fun q => ?_⟩
    refine zr_astore_n (ls' := [some (.ref x), some (.int p1), some (.ref o), some (.ref q)]) dL_feed_12 rfl (by decide) rfl ?_
    refine zr_iconst (v := 1) dL_feed_13 (by decide) ?_
    exact zr_ireturn dL_feed_14 rfl (rfl) (⟨_, rfl, rfl, hQ⟩)

set_option maxHeartbeats 400000 in
set_option maxRecDepth 100000 in
theorem wOK_execute {X : zX} (hX : X.1.stackTraces = false) {σ : zS} {x o d mc ms : Nat} {fs : List Value} {Qs : zS → Prop} {v : Int32} {f : Nat → Int64} (hm : zMet X mX9_execute yX9_execute d mc ms [.ref x] σ (zI (fun r s => r = v ∧ Qs s))) (hx : σ.1 x = .inr (7, fs)) (ho : ∀ σ2, Qs σ2 → σ2.1 o = .inl (3, 1, .inr (.inl f))) : zMetH X mL_execute yL_execute (d + 1) mc ms [.ref x, .ref o] σ (zI (fun r t => r = 0 ∧ ∃ s, Qs s ∧ t = zup s o (.inl (3, 1, .inr (.inl (vp_updL f 0 v.toInt64)))))) := by
  refine zMetH_of (ls := [some (.ref x), some (.ref o), none]) (by decide +kernel) rfl rfl hX (Nat.le_of_ble_eq_true rfl) rfl ?_
  refine zr_aload_n dL_execute_0 rfl ?_
  refine zr_iconst (v := 0) dL_execute_1 (by decide) ?_
  refine zr_aload_n dL_execute_2 rfl ?_
  refine zr_callVc (rest := [.int 0, .ref o]) dL_execute_3 vL_133 hm (Nat.le_refl _) (Nat.le_refl _) (Nat.le_refl _) rfl rfl (Nat.le_of_ble_eq_true rfl) hx (by decide) (fun v2 s1 h_ => ?_) (fun E s1 h_ => ?_)
  · obtain ⟨r, e, e2, hQ⟩ := h_
    cases e
    rw [e2]
    have ko := ho s1 hQ
    refine zr_i2l dL_execute_6 ?_
    refine zr_lastore dL_execute_7 ko (vp_in_nI (n := 0) (by omega) (by omega)) ?_
    rw [show (0 : Int32).toNatClampNeg = 0 from by decide]
    refine zr_sig (fun ks1 e_ks1 => ?_)
    have kh2 : ks1.1 o = .inl (3, 1, .inr (.inl (vp_updL f 0 ((v).toInt64)))) := by rw [e_ks1]; exact zup_at _ _ _
    refine zr_goto (tgt := 17) dL_execute_8 (by decide) ?_
    refine zr_iconst (v := 0) dL_execute_17 (by decide) ?_
    exact zr_ireturn dL_execute_18 rfl (rfl) (⟨_, rfl, rfl, s1, hQ, by rw [e_ks1]⟩)
  · obtain ⟨r, e, -⟩ := h_
    cases e

set_option maxHeartbeats 400000 in
set_option maxRecDepth 100000 in
theorem wN1_execute {X : zX} (hX : X.1.stackTraces = false) {σ : zS} {x o d mc ms : Nat} {fs : List Value} {Qs : zS → Prop} (hm : zMet X mX9_execute yX9_execute d mc ms [.ref x] σ (fun o_ s => o_ = .inr "java/lang/IllegalArgumentException" ∧ Qs s)) (hx : σ.1 x = .inr (7, fs)) : zMetH X mL_execute yL_execute (d + 1) mc ms [.ref x, .ref o] σ (zI (fun r t => r = 1 ∧ Qs t)) := by
  refine zMetH_of (ls := [some (.ref x), some (.ref o), none]) (by decide +kernel) rfl rfl hX (Nat.le_of_ble_eq_true rfl) rfl ?_
  refine zr_aload_n dL_execute_0 rfl ?_
  refine zr_iconst (v := 0) dL_execute_1 (by decide) ?_
  refine zr_aload_n dL_execute_2 rfl ?_
  refine zr_callVc (rest := [.int 0, .ref o]) dL_execute_3 vL_133 hm (Nat.le_refl _) (Nat.le_refl _) (Nat.le_refl _) rfl rfl (Nat.le_of_ble_eq_true rfl) hx (by decide) (fun v2 s1 h_ => ?_) (fun E s1 h_ => ?_)
  · obtain ⟨e, -⟩ := h_
    cases e
  · obtain ⟨e, hQ⟩ := h_
    cases e
    refine ⟨11, zHas0 lL_21 (by decide +kernel) rfl (by decide), fun q => ?_⟩
    refine zr_astore_n (ls' := [some (.ref x), some (.ref o), some (.ref q)]) dL_execute_11 rfl (by decide) rfl ?_
    refine zr_iconst (v := 1) dL_execute_12 (by decide) ?_
    exact zr_ireturn dL_execute_13 rfl (rfl) (⟨_, rfl, rfl, hQ⟩)

set_option maxHeartbeats 400000 in
set_option maxRecDepth 100000 in
theorem wN2_execute {X : zX} (hX : X.1.stackTraces = false) {σ : zS} {x o d mc ms : Nat} {fs : List Value} {Qs : zS → Prop} (hm : zMet X mX9_execute yX9_execute d mc ms [.ref x] σ (fun o_ s => o_ = .inr "java/lang/UnsupportedOperationException" ∧ Qs s)) (hx : σ.1 x = .inr (7, fs)) : zMetH X mL_execute yL_execute (d + 1) mc ms [.ref x, .ref o] σ (zI (fun r t => r = 2 ∧ Qs t)) := by
  refine zMetH_of (ls := [some (.ref x), some (.ref o), none]) (by decide +kernel) rfl rfl hX (Nat.le_of_ble_eq_true rfl) rfl ?_
  refine zr_aload_n dL_execute_0 rfl ?_
  refine zr_iconst (v := 0) dL_execute_1 (by decide) ?_
  refine zr_aload_n dL_execute_2 rfl ?_
  refine zr_callVc (rest := [.int 0, .ref o]) dL_execute_3 vL_133 hm (Nat.le_refl _) (Nat.le_refl _) (Nat.le_refl _) rfl rfl (Nat.le_of_ble_eq_true rfl) hx (by decide) (fun v2 s1 h_ => ?_) (fun E s1 h_ => ?_)
  · obtain ⟨e, -⟩ := h_
    cases e
  · obtain ⟨e, hQ⟩ := h_
    cases e
    refine ⟨14, zHasS lL_21 (by decide +kernel) (by decide) (zHas0 lL_13 (by decide +kernel) rfl (by decide)), fun q => ?_⟩
    refine zr_astore_n (ls' := [some (.ref x), some (.ref o), some (.ref q)]) dL_execute_14 rfl (by decide) rfl ?_
    refine zr_iconst (v := 2) dL_execute_15 (by decide) ?_
    exact zr_ireturn dL_execute_16 rfl (rfl) (⟨_, rfl, rfl, hQ⟩)

set_option maxHeartbeats 400000 in
set_option maxRecDepth 100000 in
theorem wOK_faultPosition {X : zX} (hX : X.1.stackTraces = false) {σ : zS} {x o d mc ms : Nat} {fs : List Value} {Qs : zS → Prop} {v : Int32} {f : Nat → Int64} (hm : zMet X mX9_faultPosition yX9_faultPosition d mc ms [.ref x] σ (zI (fun r s => r = v ∧ Qs s))) (hx : σ.1 x = .inr (7, fs)) (ho : ∀ σ2, Qs σ2 → σ2.1 o = .inl (3, 1, .inr (.inl f))) : zMetH X mL_faultPosition yL_faultPosition (d + 1) mc ms [.ref x, .ref o] σ (zI (fun r t => r = 0 ∧ ∃ s, Qs s ∧ t = zup s o (.inl (3, 1, .inr (.inl (vp_updL f 0 v.toInt64)))))) := by
  refine zMetH_of (ls := [some (.ref x), some (.ref o), none]) (by decide +kernel) rfl rfl hX (Nat.le_of_ble_eq_true rfl) rfl ?_
  refine zr_aload_n dL_faultPosition_0 rfl ?_
  refine zr_iconst (v := 0) dL_faultPosition_1 (by decide) ?_
  refine zr_aload_n dL_faultPosition_2 rfl ?_
  refine zr_callVc (rest := [.int 0, .ref o]) dL_faultPosition_3 vL_136 hm (Nat.le_refl _) (Nat.le_refl _) (Nat.le_refl _) rfl rfl (Nat.le_of_ble_eq_true rfl) hx (by decide) (fun v2 s1 h_ => ?_) (fun E s1 h_ => ?_)
  · obtain ⟨r, e, e2, hQ⟩ := h_
    cases e
    rw [e2]
    have ko := ho s1 hQ
    refine zr_i2l dL_faultPosition_6 ?_
    refine zr_lastore dL_faultPosition_7 ko (vp_in_nI (n := 0) (by omega) (by omega)) ?_
    rw [show (0 : Int32).toNatClampNeg = 0 from by decide]
    refine zr_sig (fun ks1 e_ks1 => ?_)
    have kh2 : ks1.1 o = .inl (3, 1, .inr (.inl (vp_updL f 0 ((v).toInt64)))) := by rw [e_ks1]; exact zup_at _ _ _
    refine zr_goto (tgt := 14) dL_faultPosition_8 (by decide) ?_
    refine zr_iconst (v := 0) dL_faultPosition_14 (by decide) ?_
    exact zr_ireturn dL_faultPosition_15 rfl (rfl) (⟨_, rfl, rfl, s1, hQ, by rw [e_ks1]⟩)
  · obtain ⟨r, e, -⟩ := h_
    cases e

set_option maxHeartbeats 400000 in
set_option maxRecDepth 100000 in
theorem wN1_faultPosition {X : zX} (hX : X.1.stackTraces = false) {σ : zS} {x o d mc ms : Nat} {fs : List Value} {Qs : zS → Prop} (hm : zMet X mX9_faultPosition yX9_faultPosition d mc ms [.ref x] σ (fun o_ s => o_ = .inr "java/util/NoSuchElementException" ∧ Qs s)) (hx : σ.1 x = .inr (7, fs)) : zMetH X mL_faultPosition yL_faultPosition (d + 1) mc ms [.ref x, .ref o] σ (zI (fun r t => r = 1 ∧ Qs t)) := by
  refine zMetH_of (ls := [some (.ref x), some (.ref o), none]) (by decide +kernel) rfl rfl hX (Nat.le_of_ble_eq_true rfl) rfl ?_
  refine zr_aload_n dL_faultPosition_0 rfl ?_
  refine zr_iconst (v := 0) dL_faultPosition_1 (by decide) ?_
  refine zr_aload_n dL_faultPosition_2 rfl ?_
  refine zr_callVc (rest := [.int 0, .ref o]) dL_faultPosition_3 vL_136 hm (Nat.le_refl _) (Nat.le_refl _) (Nat.le_refl _) rfl rfl (Nat.le_of_ble_eq_true rfl) hx (by decide) (fun v2 s1 h_ => ?_) (fun E s1 h_ => ?_)
  · obtain ⟨e, -⟩ := h_
    cases e
  · obtain ⟨e, hQ⟩ := h_
    cases e
    refine ⟨11, zHas0 lL_41 (by decide +kernel) rfl (by decide), fun q => ?_⟩
    refine zr_astore_n (ls' := [some (.ref x), some (.ref o), some (.ref q)]) dL_faultPosition_11 rfl (by decide) rfl ?_
    refine zr_iconst (v := 1) dL_faultPosition_12 (by decide) ?_
    exact zr_ireturn dL_faultPosition_13 rfl (rfl) (⟨_, rfl, rfl, hQ⟩)

set_option maxHeartbeats 400000 in
set_option maxRecDepth 100000 in
theorem wOK_writeCase {X : zX} (hX : X.1.stackTraces = false) {σ : zS} {x o d mc ms : Nat} {p1 : Int32} {fs : List Value} {Qs : zS → Prop} {v : Int32} {f : Nat → Int64} (hm : zMet X mX9_writeCase yX9_writeCase d mc ms [.ref x, .int p1] σ (zI (fun r s => r = v ∧ Qs s))) (hx : σ.1 x = .inr (7, fs)) (ho : ∀ σ2, Qs σ2 → σ2.1 o = .inl (3, 1, .inr (.inl f))) : zMetH X mL_writeCase yL_writeCase (d + 1) mc ms [.ref x, .int p1, .ref o] σ (zI (fun r t => r = 0 ∧ ∃ s, Qs s ∧ t = zup s o (.inl (3, 1, .inr (.inl (vp_updL f 0 v.toInt64)))))) := by
  refine zMetH_of (ls := [some (.ref x), some (.int p1), some (.ref o), none]) (by decide +kernel) rfl rfl hX (Nat.le_of_ble_eq_true rfl) rfl ?_
  refine zr_aload_n dL_writeCase_0 rfl ?_
  refine zr_iconst (v := 0) dL_writeCase_1 (by decide) ?_
  refine zr_aload_n dL_writeCase_2 rfl ?_
  refine zr_iload_n dL_writeCase_3 rfl ?_
  refine zr_callVc (rest := [.int 0, .ref o]) dL_writeCase_4 vL_139 hm (Nat.le_refl _) (Nat.le_refl _) (Nat.le_refl _) rfl rfl (Nat.le_of_ble_eq_true rfl) hx (by decide) (fun v2 s1 h_ => ?_) (fun E s1 h_ => ?_)
  · obtain ⟨r, e, e2, hQ⟩ := h_
    cases e
    rw [e2]
    have ko := ho s1 hQ
    refine zr_i2l dL_writeCase_7 ?_
    refine zr_lastore dL_writeCase_8 ko (vp_in_nI (n := 0) (by omega) (by omega)) ?_
    rw [show (0 : Int32).toNatClampNeg = 0 from by decide]
    refine zr_sig (fun ks1 e_ks1 => ?_)
    have kh2 : ks1.1 o = .inl (3, 1, .inr (.inl (vp_updL f 0 ((v).toInt64)))) := by rw [e_ks1]; exact zup_at _ _ _
    refine zr_goto (tgt := 15) dL_writeCase_9 (by decide) ?_
    refine zr_iconst (v := 0) dL_writeCase_15 (by decide) ?_
    exact zr_ireturn dL_writeCase_16 rfl (rfl) (⟨_, rfl, rfl, s1, hQ, by rw [e_ks1]⟩)
  · obtain ⟨r, e, -⟩ := h_
    cases e

set_option maxHeartbeats 400000 in
set_option maxRecDepth 100000 in
theorem wN1_writeCase {X : zX} (hX : X.1.stackTraces = false) {σ : zS} {x o d mc ms : Nat} {p1 : Int32} {fs : List Value} {Qs : zS → Prop} (hm : zMet X mX9_writeCase yX9_writeCase d mc ms [.ref x, .int p1] σ (fun o_ s => o_ = .inr "java/lang/IndexOutOfBoundsException" ∧ Qs s)) (hx : σ.1 x = .inr (7, fs)) : zMetH X mL_writeCase yL_writeCase (d + 1) mc ms [.ref x, .int p1, .ref o] σ (zI (fun r t => r = 1 ∧ Qs t)) := by
  refine zMetH_of (ls := [some (.ref x), some (.int p1), some (.ref o), none]) (by decide +kernel) rfl rfl hX (Nat.le_of_ble_eq_true rfl) rfl ?_
  refine zr_aload_n dL_writeCase_0 rfl ?_
  refine zr_iconst (v := 0) dL_writeCase_1 (by decide) ?_
  refine zr_aload_n dL_writeCase_2 rfl ?_
  refine zr_iload_n dL_writeCase_3 rfl ?_
  refine zr_callVc (rest := [.int 0, .ref o]) dL_writeCase_4 vL_139 hm (Nat.le_refl _) (Nat.le_refl _) (Nat.le_refl _) rfl rfl (Nat.le_of_ble_eq_true rfl) hx (by decide) (fun v2 s1 h_ => ?_) (fun E s1 h_ => ?_)
  · obtain ⟨e, -⟩ := h_
    cases e
  · obtain ⟨e, hQ⟩ := h_
    cases e
    refine ⟨12, zHas0 lL_19 (by decide +kernel) rfl (by decide), fun q => ?_⟩
    refine zr_astore_n (ls' := [some (.ref x), some (.int p1), some (.ref o), some (.ref q)]) dL_writeCase_12 rfl (by decide) rfl ?_
    refine zr_iconst (v := 1) dL_writeCase_13 (by decide) ?_
    exact zr_ireturn dL_writeCase_14 rfl (rfl) (⟨_, rfl, rfl, hQ⟩)

set_option maxHeartbeats 400000 in
set_option maxRecDepth 100000 in
theorem wOK_writeRelaxed {X : zX} (hX : X.1.stackTraces = false) {σ : zS} {x o d mc ms : Nat} {p1 : Int32} {fs : List Value} {Qs : zS → Prop} {v : Int32} {f : Nat → Int64} (hm : zMet X mX9_writeRelaxed yX9_writeRelaxed d mc ms [.ref x, .int p1] σ (zI (fun r s => r = v ∧ Qs s))) (hx : σ.1 x = .inr (7, fs)) (ho : ∀ σ2, Qs σ2 → σ2.1 o = .inl (3, 1, .inr (.inl f))) : zMetH X mL_writeRelaxed yL_writeRelaxed (d + 1) mc ms [.ref x, .int p1, .ref o] σ (zI (fun r t => r = 0 ∧ ∃ s, Qs s ∧ t = zup s o (.inl (3, 1, .inr (.inl (vp_updL f 0 v.toInt64)))))) := by
  refine zMetH_of (ls := [some (.ref x), some (.int p1), some (.ref o), none]) (by decide +kernel) rfl rfl hX (Nat.le_of_ble_eq_true rfl) rfl ?_
  refine zr_aload_n dL_writeRelaxed_0 rfl ?_
  refine zr_iconst (v := 0) dL_writeRelaxed_1 (by decide) ?_
  refine zr_aload_n dL_writeRelaxed_2 rfl ?_
  refine zr_iload_n dL_writeRelaxed_3 rfl ?_
  refine zr_callVc (rest := [.int 0, .ref o]) dL_writeRelaxed_4 vL_142 hm (Nat.le_refl _) (Nat.le_refl _) (Nat.le_refl _) rfl rfl (Nat.le_of_ble_eq_true rfl) hx (by decide) (fun v2 s1 h_ => ?_) (fun E s1 h_ => ?_)
  · obtain ⟨r, e, e2, hQ⟩ := h_
    cases e
    rw [e2]
    have ko := ho s1 hQ
    refine zr_i2l dL_writeRelaxed_7 ?_
    refine zr_lastore dL_writeRelaxed_8 ko (vp_in_nI (n := 0) (by omega) (by omega)) ?_
    rw [show (0 : Int32).toNatClampNeg = 0 from by decide]
    refine zr_sig (fun ks1 e_ks1 => ?_)
    have kh2 : ks1.1 o = .inl (3, 1, .inr (.inl (vp_updL f 0 ((v).toInt64)))) := by rw [e_ks1]; exact zup_at _ _ _
    refine zr_goto (tgt := 18) dL_writeRelaxed_9 (by decide) ?_
    refine zr_iconst (v := 0) dL_writeRelaxed_18 (by decide) ?_
    exact zr_ireturn dL_writeRelaxed_19 rfl (rfl) (⟨_, rfl, rfl, s1, hQ, by rw [e_ks1]⟩)
  · obtain ⟨r, e, -⟩ := h_
    cases e

set_option maxHeartbeats 400000 in
set_option maxRecDepth 100000 in
theorem wN1_writeRelaxed {X : zX} (hX : X.1.stackTraces = false) {σ : zS} {x o d mc ms : Nat} {p1 : Int32} {fs : List Value} {Qs : zS → Prop} (hm : zMet X mX9_writeRelaxed yX9_writeRelaxed d mc ms [.ref x, .int p1] σ (fun o_ s => o_ = .inr "java/lang/IndexOutOfBoundsException" ∧ Qs s)) (hx : σ.1 x = .inr (7, fs)) : zMetH X mL_writeRelaxed yL_writeRelaxed (d + 1) mc ms [.ref x, .int p1, .ref o] σ (zI (fun r t => r = 1 ∧ Qs t)) := by
  refine zMetH_of (ls := [some (.ref x), some (.int p1), some (.ref o), none]) (by decide +kernel) rfl rfl hX (Nat.le_of_ble_eq_true rfl) rfl ?_
  refine zr_aload_n dL_writeRelaxed_0 rfl ?_
  refine zr_iconst (v := 0) dL_writeRelaxed_1 (by decide) ?_
  refine zr_aload_n dL_writeRelaxed_2 rfl ?_
  refine zr_iload_n dL_writeRelaxed_3 rfl ?_
  refine zr_callVc (rest := [.int 0, .ref o]) dL_writeRelaxed_4 vL_142 hm (Nat.le_refl _) (Nat.le_refl _) (Nat.le_refl _) rfl rfl (Nat.le_of_ble_eq_true rfl) hx (by decide) (fun v2 s1 h_ => ?_) (fun E s1 h_ => ?_)
  · obtain ⟨e, -⟩ := h_
    cases e
  · obtain ⟨e, hQ⟩ := h_
    cases e
    refine ⟨12, zHas0 lL_19 (by decide +kernel) rfl (by decide), fun q => ?_⟩
    refine zr_astore_n (ls' := [some (.ref x), some (.int p1), some (.ref o), some (.ref q)]) dL_writeRelaxed_12 rfl (by decide) rfl ?_
    refine zr_iconst (v := 1) dL_writeRelaxed_13 (by decide) ?_
    exact zr_ireturn dL_writeRelaxed_14 rfl (rfl) (⟨_, rfl, rfl, hQ⟩)

set_option maxHeartbeats 400000 in
set_option maxRecDepth 100000 in
theorem wN2_writeRelaxed {X : zX} (hX : X.1.stackTraces = false) {σ : zS} {x o d mc ms : Nat} {p1 : Int32} {fs : List Value} {Qs : zS → Prop} (hm : zMet X mX9_writeRelaxed yX9_writeRelaxed d mc ms [.ref x, .int p1] σ (fun o_ s => o_ = .inr "java/lang/IllegalStateException" ∧ Qs s)) (hx : σ.1 x = .inr (7, fs)) : zMetH X mL_writeRelaxed yL_writeRelaxed (d + 1) mc ms [.ref x, .int p1, .ref o] σ (zI (fun r t => r = 2 ∧ Qs t)) := by
  refine zMetH_of (ls := [some (.ref x), some (.int p1), some (.ref o), none]) (by decide +kernel) rfl rfl hX (Nat.le_of_ble_eq_true rfl) rfl ?_
  refine zr_aload_n dL_writeRelaxed_0 rfl ?_
  refine zr_iconst (v := 0) dL_writeRelaxed_1 (by decide) ?_
  refine zr_aload_n dL_writeRelaxed_2 rfl ?_
  refine zr_iload_n dL_writeRelaxed_3 rfl ?_
  refine zr_callVc (rest := [.int 0, .ref o]) dL_writeRelaxed_4 vL_142 hm (Nat.le_refl _) (Nat.le_refl _) (Nat.le_refl _) rfl rfl (Nat.le_of_ble_eq_true rfl) hx (by decide) (fun v2 s1 h_ => ?_) (fun E s1 h_ => ?_)
  · obtain ⟨e, -⟩ := h_
    cases e
  · obtain ⟨e, hQ⟩ := h_
    cases e
    refine ⟨15, zHasS lL_19 (by decide +kernel) (by decide) (zHas0 lL_56 (by decide +kernel) rfl (by decide)), fun q => ?_⟩
    refine zr_astore_n (ls' := [some (.ref x), some (.int p1), some (.ref o), some (.ref q)]) dL_writeRelaxed_15 rfl (by decide) rfl ?_
    refine zr_iconst (v := 2) dL_writeRelaxed_16 (by decide) ?_
    exact zr_ireturn dL_writeRelaxed_17 rfl (rfl) (⟨_, rfl, rfl, hQ⟩)

set_option maxHeartbeats 400000 in
set_option maxRecDepth 100000 in
theorem wOK_lineCharacter {X : zX} (hX : X.1.stackTraces = false) {σ : zS} {x o d mc ms : Nat} {p1 : Int32} {fs : List Value} {Qs : zS → Prop} {v : Int32} {f : Nat → Int64} (hm : zMet X mX9_lineCharacter yX9_lineCharacter d mc ms [.ref x, .int p1] σ (zI (fun r s => r = v ∧ Qs s))) (hx : σ.1 x = .inr (7, fs)) (ho : ∀ σ2, Qs σ2 → σ2.1 o = .inl (3, 1, .inr (.inl f))) : zMetH X mL_lineCharacter yL_lineCharacter (d + 1) mc ms [.ref x, .int p1, .ref o] σ (zI (fun r t => r = 0 ∧ ∃ s, Qs s ∧ t = zup s o (.inl (3, 1, .inr (.inl (vp_updL f 0 v.toInt64)))))) := by
  refine zMetH_of (ls := [some (.ref x), some (.int p1), some (.ref o), none]) (by decide +kernel) rfl rfl hX (Nat.le_of_ble_eq_true rfl) rfl ?_
  refine zr_aload_n dL_lineCharacter_0 rfl ?_
  refine zr_iconst (v := 0) dL_lineCharacter_1 (by decide) ?_
  refine zr_aload_n dL_lineCharacter_2 rfl ?_
  refine zr_iload_n dL_lineCharacter_3 rfl ?_
  refine zr_callVc (rest := [.int 0, .ref o]) dL_lineCharacter_4 vL_145 hm (Nat.le_refl _) (Nat.le_refl _) (Nat.le_refl _) rfl rfl (Nat.le_of_ble_eq_true rfl) hx (by decide) (fun v2 s1 h_ => ?_) (fun E s1 h_ => ?_)
  · obtain ⟨r, e, e2, hQ⟩ := h_
    cases e
    rw [e2]
    have ko := ho s1 hQ
    refine zr_i2l dL_lineCharacter_7 ?_
    refine zr_lastore dL_lineCharacter_8 ko (vp_in_nI (n := 0) (by omega) (by omega)) ?_
    rw [show (0 : Int32).toNatClampNeg = 0 from by decide]
    refine zr_sig (fun ks1 e_ks1 => ?_)
    have kh2 : ks1.1 o = .inl (3, 1, .inr (.inl (vp_updL f 0 ((v).toInt64)))) := by rw [e_ks1]; exact zup_at _ _ _
    refine zr_goto (tgt := 15) dL_lineCharacter_9 (by decide) ?_
    refine zr_iconst (v := 0) dL_lineCharacter_15 (by decide) ?_
    exact zr_ireturn dL_lineCharacter_16 rfl (rfl) (⟨_, rfl, rfl, s1, hQ, by rw [e_ks1]⟩)
  · obtain ⟨r, e, -⟩ := h_
    cases e

set_option maxHeartbeats 400000 in
set_option maxRecDepth 100000 in
theorem wN1_lineCharacter {X : zX} (hX : X.1.stackTraces = false) {σ : zS} {x o d mc ms : Nat} {p1 : Int32} {fs : List Value} {Qs : zS → Prop} (hm : zMet X mX9_lineCharacter yX9_lineCharacter d mc ms [.ref x, .int p1] σ (fun o_ s => o_ = .inr "java/lang/IndexOutOfBoundsException" ∧ Qs s)) (hx : σ.1 x = .inr (7, fs)) : zMetH X mL_lineCharacter yL_lineCharacter (d + 1) mc ms [.ref x, .int p1, .ref o] σ (zI (fun r t => r = 1 ∧ Qs t)) := by
  refine zMetH_of (ls := [some (.ref x), some (.int p1), some (.ref o), none]) (by decide +kernel) rfl rfl hX (Nat.le_of_ble_eq_true rfl) rfl ?_
  refine zr_aload_n dL_lineCharacter_0 rfl ?_
  refine zr_iconst (v := 0) dL_lineCharacter_1 (by decide) ?_
  refine zr_aload_n dL_lineCharacter_2 rfl ?_
  refine zr_iload_n dL_lineCharacter_3 rfl ?_
  refine zr_callVc (rest := [.int 0, .ref o]) dL_lineCharacter_4 vL_145 hm (Nat.le_refl _) (Nat.le_refl _) (Nat.le_refl _) rfl rfl (Nat.le_of_ble_eq_true rfl) hx (by decide) (fun v2 s1 h_ => ?_) (fun E s1 h_ => ?_)
  · obtain ⟨e, -⟩ := h_
    cases e
  · obtain ⟨e, hQ⟩ := h_
    cases e
    refine ⟨12, zHas0 lL_19 (by decide +kernel) rfl (by decide), fun q => ?_⟩
    refine zr_astore_n (ls' := [some (.ref x), some (.int p1), some (.ref o), some (.ref q)]) dL_lineCharacter_12 rfl (by decide) rfl ?_
    refine zr_iconst (v := 1) dL_lineCharacter_13 (by decide) ?_
    exact zr_ireturn dL_lineCharacter_14 rfl (rfl) (⟨_, rfl, rfl, hQ⟩)

set_option maxHeartbeats 400000 in
set_option maxRecDepth 100000 in
theorem wOK_denial {X : zX} (hX : X.1.stackTraces = false) {σ : zS} {x o d mc ms : Nat} {fs : List Value} {Qs : zS → Prop} {v : Int32} {f : Nat → Int64} (hm : zMet X mX9_denial yX9_denial d mc ms [.ref x] σ (zI (fun r s => r = v ∧ Qs s))) (hx : σ.1 x = .inr (7, fs)) (ho : ∀ σ2, Qs σ2 → σ2.1 o = .inl (3, 1, .inr (.inl f))) : zMetH X mL_denial yL_denial (d + 1) mc ms [.ref x, .ref o] σ (zI (fun r t => r = 0 ∧ ∃ s, Qs s ∧ t = zup s o (.inl (3, 1, .inr (.inl (vp_updL f 0 v.toInt64)))))) := by
  refine zMetH_of (ls := [some (.ref x), some (.ref o), none]) (by decide +kernel) rfl rfl hX (Nat.le_of_ble_eq_true rfl) rfl ?_
  refine zr_aload_n dL_denial_0 rfl ?_
  refine zr_iconst (v := 0) dL_denial_1 (by decide) ?_
  refine zr_aload_n dL_denial_2 rfl ?_
  refine zr_callVc (rest := [.int 0, .ref o]) dL_denial_3 vL_148 hm (Nat.le_refl _) (Nat.le_refl _) (Nat.le_refl _) rfl rfl (Nat.le_of_ble_eq_true rfl) hx (by decide) (fun v2 s1 h_ => ?_) (fun E s1 h_ => ?_)
  · obtain ⟨r, e, e2, hQ⟩ := h_
    cases e
    rw [e2]
    have ko := ho s1 hQ
    refine zr_i2l dL_denial_6 ?_
    refine zr_lastore dL_denial_7 ko (vp_in_nI (n := 0) (by omega) (by omega)) ?_
    rw [show (0 : Int32).toNatClampNeg = 0 from by decide]
    refine zr_sig (fun ks1 e_ks1 => ?_)
    have kh2 : ks1.1 o = .inl (3, 1, .inr (.inl (vp_updL f 0 ((v).toInt64)))) := by rw [e_ks1]; exact zup_at _ _ _
    refine zr_goto (tgt := 14) dL_denial_8 (by decide) ?_
    refine zr_iconst (v := 0) dL_denial_14 (by decide) ?_
    exact zr_ireturn dL_denial_15 rfl (rfl) (⟨_, rfl, rfl, s1, hQ, by rw [e_ks1]⟩)
  · obtain ⟨r, e, -⟩ := h_
    cases e

set_option maxHeartbeats 400000 in
set_option maxRecDepth 100000 in
theorem wN1_denial {X : zX} (hX : X.1.stackTraces = false) {σ : zS} {x o d mc ms : Nat} {fs : List Value} {Qs : zS → Prop} (hm : zMet X mX9_denial yX9_denial d mc ms [.ref x] σ (fun o_ s => o_ = .inr "java/util/NoSuchElementException" ∧ Qs s)) (hx : σ.1 x = .inr (7, fs)) : zMetH X mL_denial yL_denial (d + 1) mc ms [.ref x, .ref o] σ (zI (fun r t => r = 1 ∧ Qs t)) := by
  refine zMetH_of (ls := [some (.ref x), some (.ref o), none]) (by decide +kernel) rfl rfl hX (Nat.le_of_ble_eq_true rfl) rfl ?_
  refine zr_aload_n dL_denial_0 rfl ?_
  refine zr_iconst (v := 0) dL_denial_1 (by decide) ?_
  refine zr_aload_n dL_denial_2 rfl ?_
  refine zr_callVc (rest := [.int 0, .ref o]) dL_denial_3 vL_148 hm (Nat.le_refl _) (Nat.le_refl _) (Nat.le_refl _) rfl rfl (Nat.le_of_ble_eq_true rfl) hx (by decide) (fun v2 s1 h_ => ?_) (fun E s1 h_ => ?_)
  · obtain ⟨e, -⟩ := h_
    cases e
  · obtain ⟨e, hQ⟩ := h_
    cases e
    refine ⟨11, zHas0 lL_41 (by decide +kernel) rfl (by decide), fun q => ?_⟩
    refine zr_astore_n (ls' := [some (.ref x), some (.ref o), some (.ref q)]) dL_denial_11 rfl (by decide) rfl ?_
    refine zr_iconst (v := 1) dL_denial_12 (by decide) ?_
    exact zr_ireturn dL_denial_13 rfl (rfl) (⟨_, rfl, rfl, hQ⟩)

set_option maxHeartbeats 400000 in
set_option maxRecDepth 100000 in
theorem wOK_denialDetail {X : zX} (hX : X.1.stackTraces = false) {σ : zS} {x o d mc ms : Nat} {fs : List Value} {Qs : zS → Prop} {v : Int32} {f : Nat → Int64} (hm : zMet X mX9_denialDetail yX9_denialDetail d mc ms [.ref x] σ (zI (fun r s => r = v ∧ Qs s))) (hx : σ.1 x = .inr (7, fs)) (ho : ∀ σ2, Qs σ2 → σ2.1 o = .inl (3, 1, .inr (.inl f))) : zMetH X mL_denialDetail yL_denialDetail (d + 1) mc ms [.ref x, .ref o] σ (zI (fun r t => r = 0 ∧ ∃ s, Qs s ∧ t = zup s o (.inl (3, 1, .inr (.inl (vp_updL f 0 v.toInt64)))))) := by
  refine zMetH_of (ls := [some (.ref x), some (.ref o), none]) (by decide +kernel) rfl rfl hX (Nat.le_of_ble_eq_true rfl) rfl ?_
  refine zr_aload_n dL_denialDetail_0 rfl ?_
  refine zr_iconst (v := 0) dL_denialDetail_1 (by decide) ?_
  refine zr_aload_n dL_denialDetail_2 rfl ?_
  refine zr_callVc (rest := [.int 0, .ref o]) dL_denialDetail_3 vL_151 hm (Nat.le_refl _) (Nat.le_refl _) (Nat.le_refl _) rfl rfl (Nat.le_of_ble_eq_true rfl) hx (by decide) (fun v2 s1 h_ => ?_) (fun E s1 h_ => ?_)
  · obtain ⟨r, e, e2, hQ⟩ := h_
    cases e
    rw [e2]
    have ko := ho s1 hQ
    refine zr_i2l dL_denialDetail_6 ?_
    refine zr_lastore dL_denialDetail_7 ko (vp_in_nI (n := 0) (by omega) (by omega)) ?_
    rw [show (0 : Int32).toNatClampNeg = 0 from by decide]
    refine zr_sig (fun ks1 e_ks1 => ?_)
    have kh2 : ks1.1 o = .inl (3, 1, .inr (.inl (vp_updL f 0 ((v).toInt64)))) := by rw [e_ks1]; exact zup_at _ _ _
    refine zr_goto (tgt := 14) dL_denialDetail_8 (by decide) ?_
    refine zr_iconst (v := 0) dL_denialDetail_14 (by decide) ?_
    exact zr_ireturn dL_denialDetail_15 rfl (rfl) (⟨_, rfl, rfl, s1, hQ, by rw [e_ks1]⟩)
  · obtain ⟨r, e, -⟩ := h_
    cases e

set_option maxHeartbeats 400000 in
set_option maxRecDepth 100000 in
theorem wN1_denialDetail {X : zX} (hX : X.1.stackTraces = false) {σ : zS} {x o d mc ms : Nat} {fs : List Value} {Qs : zS → Prop} (hm : zMet X mX9_denialDetail yX9_denialDetail d mc ms [.ref x] σ (fun o_ s => o_ = .inr "java/util/NoSuchElementException" ∧ Qs s)) (hx : σ.1 x = .inr (7, fs)) : zMetH X mL_denialDetail yL_denialDetail (d + 1) mc ms [.ref x, .ref o] σ (zI (fun r t => r = 1 ∧ Qs t)) := by
  refine zMetH_of (ls := [some (.ref x), some (.ref o), none]) (by decide +kernel) rfl rfl hX (Nat.le_of_ble_eq_true rfl) rfl ?_
  refine zr_aload_n dL_denialDetail_0 rfl ?_
  refine zr_iconst (v := 0) dL_denialDetail_1 (by decide) ?_
  refine zr_aload_n dL_denialDetail_2 rfl ?_
  refine zr_callVc (rest := [.int 0, .ref o]) dL_denialDetail_3 vL_151 hm (Nat.le_refl _) (Nat.le_refl _) (Nat.le_refl _) rfl rfl (Nat.le_of_ble_eq_true rfl) hx (by decide) (fun v2 s1 h_ => ?_) (fun E s1 h_ => ?_)
  · obtain ⟨e, -⟩ := h_
    cases e
  · obtain ⟨e, hQ⟩ := h_
    cases e
    refine ⟨11, zHas0 lL_41 (by decide +kernel) rfl (by decide), fun q => ?_⟩
    refine zr_astore_n (ls' := [some (.ref x), some (.ref o), some (.ref q)]) dL_denialDetail_11 rfl (by decide) rfl ?_
    refine zr_iconst (v := 1) dL_denialDetail_12 (by decide) ?_
    exact zr_ireturn dL_denialDetail_13 rfl (rfl) (⟨_, rfl, rfl, hQ⟩)

set_option maxHeartbeats 400000 in
set_option maxRecDepth 100000 in
theorem wOK_denialCause {X : zX} (hX : X.1.stackTraces = false) {σ : zS} {x o d mc ms : Nat} {fs : List Value} {Qs : zS → Prop} {v : Int32} {f : Nat → Int64} (hm : zMet X mX9_denialCause yX9_denialCause d mc ms [.ref x] σ (zI (fun r s => r = v ∧ Qs s))) (hx : σ.1 x = .inr (7, fs)) (ho : ∀ σ2, Qs σ2 → σ2.1 o = .inl (3, 1, .inr (.inl f))) : zMetH X mL_denialCause yL_denialCause (d + 1) mc ms [.ref x, .ref o] σ (zI (fun r t => r = 0 ∧ ∃ s, Qs s ∧ t = zup s o (.inl (3, 1, .inr (.inl (vp_updL f 0 v.toInt64)))))) := by
  refine zMetH_of (ls := [some (.ref x), some (.ref o), none]) (by decide +kernel) rfl rfl hX (Nat.le_of_ble_eq_true rfl) rfl ?_
  refine zr_aload_n dL_denialCause_0 rfl ?_
  refine zr_iconst (v := 0) dL_denialCause_1 (by decide) ?_
  refine zr_aload_n dL_denialCause_2 rfl ?_
  refine zr_callVc (rest := [.int 0, .ref o]) dL_denialCause_3 vL_154 hm (Nat.le_refl _) (Nat.le_refl _) (Nat.le_refl _) rfl rfl (Nat.le_of_ble_eq_true rfl) hx (by decide) (fun v2 s1 h_ => ?_) (fun E s1 h_ => ?_)
  · obtain ⟨r, e, e2, hQ⟩ := h_
    cases e
    rw [e2]
    have ko := ho s1 hQ
    refine zr_i2l dL_denialCause_6 ?_
    refine zr_lastore dL_denialCause_7 ko (vp_in_nI (n := 0) (by omega) (by omega)) ?_
    rw [show (0 : Int32).toNatClampNeg = 0 from by decide]
    refine zr_sig (fun ks1 e_ks1 => ?_)
    have kh2 : ks1.1 o = .inl (3, 1, .inr (.inl (vp_updL f 0 ((v).toInt64)))) := by rw [e_ks1]; exact zup_at _ _ _
    refine zr_goto (tgt := 14) dL_denialCause_8 (by decide) ?_
    refine zr_iconst (v := 0) dL_denialCause_14 (by decide) ?_
    exact zr_ireturn dL_denialCause_15 rfl (rfl) (⟨_, rfl, rfl, s1, hQ, by rw [e_ks1]⟩)
  · obtain ⟨r, e, -⟩ := h_
    cases e

set_option maxHeartbeats 400000 in
set_option maxRecDepth 100000 in
theorem wN1_denialCause {X : zX} (hX : X.1.stackTraces = false) {σ : zS} {x o d mc ms : Nat} {fs : List Value} {Qs : zS → Prop} (hm : zMet X mX9_denialCause yX9_denialCause d mc ms [.ref x] σ (fun o_ s => o_ = .inr "java/util/NoSuchElementException" ∧ Qs s)) (hx : σ.1 x = .inr (7, fs)) : zMetH X mL_denialCause yL_denialCause (d + 1) mc ms [.ref x, .ref o] σ (zI (fun r t => r = 1 ∧ Qs t)) := by
  refine zMetH_of (ls := [some (.ref x), some (.ref o), none]) (by decide +kernel) rfl rfl hX (Nat.le_of_ble_eq_true rfl) rfl ?_
  refine zr_aload_n dL_denialCause_0 rfl ?_
  refine zr_iconst (v := 0) dL_denialCause_1 (by decide) ?_
  refine zr_aload_n dL_denialCause_2 rfl ?_
  refine zr_callVc (rest := [.int 0, .ref o]) dL_denialCause_3 vL_154 hm (Nat.le_refl _) (Nat.le_refl _) (Nat.le_refl _) rfl rfl (Nat.le_of_ble_eq_true rfl) hx (by decide) (fun v2 s1 h_ => ?_) (fun E s1 h_ => ?_)
  · obtain ⟨e, -⟩ := h_
    cases e
  · obtain ⟨e, hQ⟩ := h_
    cases e
    refine ⟨11, zHas0 lL_41 (by decide +kernel) rfl (by decide), fun q => ?_⟩
    refine zr_astore_n (ls' := [some (.ref x), some (.ref o), some (.ref q)]) dL_denialCause_11 rfl (by decide) rfl ?_
    refine zr_iconst (v := 1) dL_denialCause_12 (by decide) ?_
    exact zr_ireturn dL_denialCause_13 rfl (rfl) (⟨_, rfl, rfl, hQ⟩)

set_option maxHeartbeats 400000 in
set_option maxRecDepth 100000 in
theorem wOK_undo {X : zX} (hX : X.1.stackTraces = false) {σ : zS} {x o d mc ms : Nat} {fs : List Value} {Qs : zS → Prop} {v : Int32} {f : Nat → Int64} (hm : zMet X mX9_undo yX9_undo d mc ms [.ref x] σ (zI (fun r s => r = v ∧ Qs s))) (hx : σ.1 x = .inr (7, fs)) (ho : ∀ σ2, Qs σ2 → σ2.1 o = .inl (3, 1, .inr (.inl f))) : zMetH X mL_undo yL_undo (d + 1) mc ms [.ref x, .ref o] σ (zI (fun r t => r = 0 ∧ ∃ s, Qs s ∧ t = zup s o (.inl (3, 1, .inr (.inl (vp_updL f 0 v.toInt64)))))) := by
  refine zMetH_of (ls := [some (.ref x), some (.ref o), none]) (by decide +kernel) rfl rfl hX (Nat.le_of_ble_eq_true rfl) rfl ?_
  refine zr_aload_n dL_undo_0 rfl ?_
  refine zr_iconst (v := 0) dL_undo_1 (by decide) ?_
  refine zr_aload_n dL_undo_2 rfl ?_
  refine zr_callVc (rest := [.int 0, .ref o]) dL_undo_3 vL_157 hm (Nat.le_refl _) (Nat.le_refl _) (Nat.le_refl _) rfl rfl (Nat.le_of_ble_eq_true rfl) hx (by decide) (fun v2 s1 h_ => ?_) (fun E s1 h_ => ?_)
  · obtain ⟨r, e, e2, hQ⟩ := h_
    cases e
    rw [e2]
    have ko := ho s1 hQ
    refine zr_i2l dL_undo_6 ?_
    refine zr_lastore dL_undo_7 ko (vp_in_nI (n := 0) (by omega) (by omega)) ?_
    rw [show (0 : Int32).toNatClampNeg = 0 from by decide]
    refine zr_sig (fun ks1 e_ks1 => ?_)
    have kh2 : ks1.1 o = .inl (3, 1, .inr (.inl (vp_updL f 0 ((v).toInt64)))) := by rw [e_ks1]; exact zup_at _ _ _
    refine zr_goto (tgt := 14) dL_undo_8 (by decide) ?_
    refine zr_iconst (v := 0) dL_undo_14 (by decide) ?_
    exact zr_ireturn dL_undo_15 rfl (rfl) (⟨_, rfl, rfl, s1, hQ, by rw [e_ks1]⟩)
  · obtain ⟨r, e, -⟩ := h_
    cases e

set_option maxHeartbeats 400000 in
set_option maxRecDepth 100000 in
theorem wN1_undo {X : zX} (hX : X.1.stackTraces = false) {σ : zS} {x o d mc ms : Nat} {fs : List Value} {Qs : zS → Prop} (hm : zMet X mX9_undo yX9_undo d mc ms [.ref x] σ (fun o_ s => o_ = .inr "java/lang/IllegalStateException" ∧ Qs s)) (hx : σ.1 x = .inr (7, fs)) : zMetH X mL_undo yL_undo (d + 1) mc ms [.ref x, .ref o] σ (zI (fun r t => r = 1 ∧ Qs t)) := by
  refine zMetH_of (ls := [some (.ref x), some (.ref o), none]) (by decide +kernel) rfl rfl hX (Nat.le_of_ble_eq_true rfl) rfl ?_
  refine zr_aload_n dL_undo_0 rfl ?_
  refine zr_iconst (v := 0) dL_undo_1 (by decide) ?_
  refine zr_aload_n dL_undo_2 rfl ?_
  refine zr_callVc (rest := [.int 0, .ref o]) dL_undo_3 vL_157 hm (Nat.le_refl _) (Nat.le_refl _) (Nat.le_refl _) rfl rfl (Nat.le_of_ble_eq_true rfl) hx (by decide) (fun v2 s1 h_ => ?_) (fun E s1 h_ => ?_)
  · obtain ⟨e, -⟩ := h_
    cases e
  · obtain ⟨e, hQ⟩ := h_
    cases e
    refine ⟨11, zHas0 lL_56 (by decide +kernel) rfl (by decide), fun q => ?_⟩
    refine zr_astore_n (ls' := [some (.ref x), some (.ref o), some (.ref q)]) dL_undo_11 rfl (by decide) rfl ?_
    refine zr_iconst (v := 1) dL_undo_12 (by decide) ?_
    exact zr_ireturn dL_undo_13 rfl (rfl) (⟨_, rfl, rfl, hQ⟩)

set_option maxHeartbeats 400000 in
set_option maxRecDepth 100000 in
theorem wOK_restoreSnapshot {X : zX} (hX : X.1.stackTraces = false) {σ : zS} {x o d mc ms : Nat} {fs : List Value} {Qs : zS → Prop} {v : Int32} {f : Nat → Int64} (hm : zMet X mX9_restoreSnapshot yX9_restoreSnapshot d mc ms [.ref x] σ (zI (fun r s => r = v ∧ Qs s))) (hx : σ.1 x = .inr (7, fs)) (ho : ∀ σ2, Qs σ2 → σ2.1 o = .inl (3, 1, .inr (.inl f))) : zMetH X mL_restoreSnapshot yL_restoreSnapshot (d + 1) mc ms [.ref x, .ref o] σ (zI (fun r t => r = 0 ∧ ∃ s, Qs s ∧ t = zup s o (.inl (3, 1, .inr (.inl (vp_updL f 0 v.toInt64)))))) := by
  refine zMetH_of (ls := [some (.ref x), some (.ref o), none]) (by decide +kernel) rfl rfl hX (Nat.le_of_ble_eq_true rfl) rfl ?_
  refine zr_aload_n dL_restoreSnapshot_0 rfl ?_
  refine zr_iconst (v := 0) dL_restoreSnapshot_1 (by decide) ?_
  refine zr_aload_n dL_restoreSnapshot_2 rfl ?_
  refine zr_callVc (rest := [.int 0, .ref o]) dL_restoreSnapshot_3 vL_160 hm (Nat.le_refl _) (Nat.le_refl _) (Nat.le_refl _) rfl rfl (Nat.le_of_ble_eq_true rfl) hx (by decide) (fun v2 s1 h_ => ?_) (fun E s1 h_ => ?_)
  · obtain ⟨r, e, e2, hQ⟩ := h_
    cases e
    rw [e2]
    have ko := ho s1 hQ
    refine zr_i2l dL_restoreSnapshot_6 ?_
    refine zr_lastore dL_restoreSnapshot_7 ko (vp_in_nI (n := 0) (by omega) (by omega)) ?_
    rw [show (0 : Int32).toNatClampNeg = 0 from by decide]
    refine zr_sig (fun ks1 e_ks1 => ?_)
    have kh2 : ks1.1 o = .inl (3, 1, .inr (.inl (vp_updL f 0 ((v).toInt64)))) := by rw [e_ks1]; exact zup_at _ _ _
    refine zr_goto (tgt := 14) dL_restoreSnapshot_8 (by decide) ?_
    refine zr_iconst (v := 0) dL_restoreSnapshot_14 (by decide) ?_
    exact zr_ireturn dL_restoreSnapshot_15 rfl (rfl) (⟨_, rfl, rfl, s1, hQ, by rw [e_ks1]⟩)
  · obtain ⟨r, e, -⟩ := h_
    cases e

set_option maxHeartbeats 400000 in
set_option maxRecDepth 100000 in
theorem wN1_restoreSnapshot {X : zX} (hX : X.1.stackTraces = false) {σ : zS} {x o d mc ms : Nat} {fs : List Value} {Qs : zS → Prop} (hm : zMet X mX9_restoreSnapshot yX9_restoreSnapshot d mc ms [.ref x] σ (fun o_ s => o_ = .inr "java/lang/IllegalStateException" ∧ Qs s)) (hx : σ.1 x = .inr (7, fs)) : zMetH X mL_restoreSnapshot yL_restoreSnapshot (d + 1) mc ms [.ref x, .ref o] σ (zI (fun r t => r = 1 ∧ Qs t)) := by
  refine zMetH_of (ls := [some (.ref x), some (.ref o), none]) (by decide +kernel) rfl rfl hX (Nat.le_of_ble_eq_true rfl) rfl ?_
  refine zr_aload_n dL_restoreSnapshot_0 rfl ?_
  refine zr_iconst (v := 0) dL_restoreSnapshot_1 (by decide) ?_
  refine zr_aload_n dL_restoreSnapshot_2 rfl ?_
  refine zr_callVc (rest := [.int 0, .ref o]) dL_restoreSnapshot_3 vL_160 hm (Nat.le_refl _) (Nat.le_refl _) (Nat.le_refl _) rfl rfl (Nat.le_of_ble_eq_true rfl) hx (by decide) (fun v2 s1 h_ => ?_) (fun E s1 h_ => ?_)
  · obtain ⟨e, -⟩ := h_
    cases e
  · obtain ⟨e, hQ⟩ := h_
    cases e
    refine ⟨11, zHas0 lL_56 (by decide +kernel) rfl (by decide), fun q => ?_⟩
    refine zr_astore_n (ls' := [some (.ref x), some (.ref o), some (.ref q)]) dL_restoreSnapshot_11 rfl (by decide) rfl ?_
    refine zr_iconst (v := 1) dL_restoreSnapshot_12 (by decide) ?_
    exact zr_ireturn dL_restoreSnapshot_13 rfl (rfl) (⟨_, rfl, rfl, hQ⟩)

