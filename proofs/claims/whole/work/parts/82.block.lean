/-! the law's blocks: one call of both each -/
abbrev mL_law : zMd := (RL, cL_law, 9, some .boolean, false, [])
abbrev zsL (X : zX) : Nat := X.2.2.2.2.2.1
abbrev zsx (X : zX) : Nat → Int32 := X.2.2.2.2.2.2
theorem zIv.ox {x y : Nat} {cd : Int32} {σ : zS} (h : zIv x y cd σ) : ∃ fs, σ.1 x = .inr (7, fs) := by
  obtain ⟨p, ⟨K, lf, h1, -⟩, -⟩ := h
  exact ⟨_, h1⟩
theorem zIv.oy {x y : Nat} {cd : Int32} {σ : zS} (h : zIv x y cd σ) : ∃ F, σ.1 y = zmO y F ∧ F 8 = cd := by
  obtain ⟨p, -, ⟨tm, dn, K, F, g, kp, sv, bf, ip, sg, td, h0, hf, -⟩, -⟩ := h
  exact ⟨F, h0, hf.2.2.2.2.1⟩
theorem zIv.fr {x : Nat} {cd : Int32} {σ s : zS} {Q : Nat → Prop} (h : zIv x (x + 261) cd σ) (F : zFr σ s Q) (hq : ∀ q, x ≤ q → q < x + 273 → ¬ Q q) : zIv x (x + 261) cd s := by
  obtain ⟨p, h1, h2, h3⟩ := h
  exact ⟨p, h1.fr F (fun q a b => hq q a (by omega)), h2.fr F (fun q a b => hq q (by omega) (by omega)), h3⟩
theorem lcmp_self (a : Int64) : lg_cmp a a = 0 := by
  unfold lg_cmp
  rw [if_neg (Int64.lt_irrefl), if_pos rfl]
set_option maxHeartbeats 400000 in
set_option maxRecDepth 100000 in
theorem blk_wordLength {X : zX} (hX : X.1.stackTraces = false) {Q : zO → zS → Prop} {σ : zS} {x i bc bs : Nat} {l6 l7 l8 : Option Value} {f : Nat → Int64} (hQ : ∀ i j : Nat, i < 7 → j < 7 → zQ X i = zQ X j → i = j) (hi : i + 4 ≤ zsL X) (hs : zsL X < 2 ^ 31) (hI0 : zIv x (x + 261) 0 σ ∨ ∃ cd, zIv x (x + 261) cd σ) (hN : σ.2 = none) (ho : σ.1 (x + 273) = .inl (3, 1, .inr (.inl f))) (kk : ∀ (s : zS) (cd : Int32) (f2 : Nat → Int64) (m6 m7 : Option Value), zIv x (x + 261) cd s → zFr σ s (fun q => x ≤ q ∧ q < x + 274) → s.1 (x + 273) = .inl (3, 1, .inr (.inl f2)) → zW X mL_law 12 bc bs Q 2861 [some (.ref (zQ X 37)), some (.ref x), some (.ref (x + 261)), some (.ref (x + 273)), some (.ref (x + 274)), some (.int (nI i)), m6, m7, l8] [] s) : zW X mL_law 12 (bc + 1) (bs + 6) Q 555 [some (.ref (zQ X 37)), some (.ref x), some (.ref (x + 261)), some (.ref (x + 273)), some (.ref (x + 274)), some (.int (nI i)), l6, l7, l8] [] σ := by
  have hs2 : zsL X = X.2.2.2.2.2.1 := rfl
  obtain ⟨cd, hI⟩ : ∃ cd, zIv x (x + 261) cd σ := hI0.elim (fun h => ⟨_, h⟩) id
  obtain ⟨fs, hx⟩ := hI.ox
  obtain ⟨Fo, hyo, -⟩ := hI.oy
  obtain ⟨⟨A, S, m, U, n, T, ll, ln, hs1, kf, ld, dt, dc⟩, hK, hM, hL⟩ := hI
  refine zr_aload_n dL_law_555 rfl ?_
  refine zr_aload_n dL_law_556 rfl ?_
  refine zr_iload dL_law_557 rfl ?_
  refine zr_iconst (v := 1) dL_law_559 (by decide) ?_
  refine zr_iadd dL_law_560 ?_
  refine zr_eqi (x' := nI (i + 1)) (nI_add i 1) ?_
  refine zr_sat dL_law_561 (vp_in_nI (n := i + 1) (by omega) (by omega)) ?_
  rw [nI_clamp (n := i + 1) (by omega)]
  refine zr_aload_n dL_law_562 rfl ?_
  have hsm := sem_wordLength hX hK hM hL hN hQ (X.2.2.2.2.2.2 (i + 1))
  rcases hsm with ⟨v, d1, mc, ms, Qs, d9, m1, m6, hc, hr⟩ | ⟨E, k, d1, mc, ms, Qs, hk, d9, m1, m6, hc, hr⟩
  · refine zr_callH (rest := []) dL_law_563 vL_194 (wOK_wordLength hX hc hx (fun s2 hq => zFr.get (hr s2 hq).1 (by unfold zXr; omega) ho)) (by omega) (by omega) (by omega) rfl rfl (Nat.le_of_ble_eq_true rfl) rfl (fun v2 s1 h_ => ?_) (fun E1 s1 h_ => by obtain ⟨r, e, -⟩ := h_; cases e)
    obtain ⟨r, e, e2, s2, hq, et⟩ := h_
    cases e
    rw [e2]
    have F0 := (hr _ hq).1
    have hy0 := zFr.get F0 (by unfold zXr; omega) hyo
    have Ft : zFr s2 s1 (zOu x) := by rw [et]; exact ⟨rfl, fun a ha => zup_ne _ _ (fun z => ha (by unfold zOu; omega))⟩
    obtain ⟨d2, d29, hr2⟩ := (hr _ hq).2 s1 Ft
    have hy := zFr.get Ft (by unfold zOu; omega) hy0
    have F1 : zFr σ s1 (fun q => x ≤ q ∧ q < x + 274) := zFr.tr (F0.w (fun q hq => by unfold zXr at hq; omega)) (P := fun q => x ≤ q ∧ q < x + 274) (show zFr s2 s1 (fun q => x ≤ q ∧ q < x + 274) from by rw [et]; exact ⟨rfl, fun a ha => zup_ne _ _ (fun z => ha (by omega))⟩) (fun q hq => hq)
    have ko : s1.1 (x + 273) = .inl (3, 1, .inr (.inl (vp_updL f 0 v.toInt64))) := by rw [et]; exact zup_at _ _ _
    refine zr_istore (ls' := [some (.ref ((zQ X 37))), some (.ref x), some (.ref ((x + 261))), some (.ref ((x + 273))), some (.ref ((x + 274))), some (.int (nI i)), some (.int 0), l7, l8]) dL_law_566 (by decide) rfl ?_
    refine zr_aload_n dL_law_568 rfl ?_
    refine zr_aload_n dL_law_569 rfl ?_
    refine zr_iload dL_law_570 rfl ?_
    refine zr_iconst (v := 1) dL_law_572 (by decide) ?_
    refine zr_iadd dL_law_573 ?_
    refine zr_eqi (x' := nI (i + 1)) (nI_add i 1) ?_
    refine zr_sat dL_law_574 (vp_in_nI (n := i + 1) (by omega) (by omega)) ?_
    rw [nI_clamp (n := i + 1) (by omega)]
    refine zr_callVi (rest := []) dL_law_575 vL_196 hr2 hy (by omega) (by omega) (by omega) rfl rfl (Nat.le_of_ble_eq_true rfl) (by decide) rfl (fun r3 u h3 => ?_)
    obtain ⟨er, F2, hI⟩ := h3
    rw [er]
    have F3 : zFr σ u (fun q => x ≤ q ∧ q < x + 274) := zFr.tr F1 F2 (fun q hq => by unfold zMr at hq; omega)
    have ko2 := zFr.get F2 (by unfold zMr; omega) ko
    obtain ⟨F8, h8, e8⟩ := hI.oy
    refine zr_istore (ls' := [some (.ref ((zQ X 37))), some (.ref x), some (.ref ((x + 261))), some (.ref ((x + 273))), some (.ref ((x + 274))), some (.int (nI i)), some (.int 0), some (.int v), l8]) dL_law_578 (by decide) rfl ?_
    refine zr_aload_n dL_law_580 rfl ?_
    refine zr_pVi (rest := []) dL_law_581 vL_173 (qX10_thrown hX h8) h8 (by omega) (by omega) (by omega) rfl rfl (Nat.le_of_ble_eq_true rfl) (by decide) rfl ?_
    refine zr_eqi (x' := 0) e8 ?_
    refine zr_iload dL_law_584 rfl ?_
    refine zr_icmp_eq (tgt := 591) dL_law_586 (by decide) (fun c_586 => ?_) (fun c_586 => absurd (by decide) c_586)
    refine zr_iload dL_law_591 rfl ?_
    refine zr_if_ne (tgt := 608) dL_law_593 (by decide) (fun c_593 => absurd (by decide) c_593) (fun c_593 => ?_)
    refine zr_aload_n dL_law_596 rfl ?_
    refine zr_iconst (v := 0) dL_law_597 (by decide) ?_
    refine zr_laload dL_law_598 ko2 (vp_in_nI (n := 0) (by omega) (by omega)) ?_
    rw [show (0 : Int32).toNatClampNeg = 0 from by decide]
    refine zr_eql (x' := v.toInt64) (by unfold vp_updL; rw [if_pos rfl]) ?_
    refine zr_iload dL_law_599 rfl ?_
    refine zr_i2l dL_law_601 ?_
    refine zr_lcmp dL_law_602 ?_
    refine zr_eqi (x' := 0) (lcmp_self _) ?_
    refine zr_if_eq (tgt := 608) dL_law_603 (by decide) (fun c_603 => ?_) (fun c_603 => absurd (by decide) c_603)
    refine zr_goto (tgt := 2861) dL_law_608 (by decide) ?_
    exact zr_less (by omega) (by omega) (kk u _ _ _ _ hI F3 ko2)
  · skip
    rcases List.mem_cons.mp hk with ek | hk
    · cases ek
      refine zr_callH (rest := []) dL_law_563 vL_194 (wN1_wordLength hX hc hx) (by omega) (by omega) (by omega) rfl rfl (Nat.le_of_ble_eq_true rfl) rfl (fun v2 s1 h_ => ?_) (fun E1 s1 h_ => by obtain ⟨r, e, -⟩ := h_; cases e)
      obtain ⟨r, e, e2, hq⟩ := h_
      cases e
      rw [e2]
      have F0 := (hr _ hq).1
      have hy0 := zFr.get F0 (by unfold zXr; omega) hyo
      obtain ⟨d2, d29, hr2⟩ := (hr _ hq).2 s1 zFr.rf
      have hy := hy0
      have F1 : zFr σ s1 (fun q => x ≤ q ∧ q < x + 274) := F0.w (fun q hq => by unfold zXr at hq; omega)
      have ko := zFr.get F0 (by unfold zXr; omega) ho
      refine zr_istore (ls' := [some (.ref ((zQ X 37))), some (.ref x), some (.ref ((x + 261))), some (.ref ((x + 273))), some (.ref ((x + 274))), some (.int (nI i)), some (.int 1), l7, l8]) dL_law_566 (by decide) rfl ?_
      refine zr_aload_n dL_law_568 rfl ?_
      refine zr_aload_n dL_law_569 rfl ?_
      refine zr_iload dL_law_570 rfl ?_
      refine zr_iconst (v := 1) dL_law_572 (by decide) ?_
      refine zr_iadd dL_law_573 ?_
      refine zr_eqi (x' := nI (i + 1)) (nI_add i 1) ?_
      refine zr_sat dL_law_574 (vp_in_nI (n := i + 1) (by omega) (by omega)) ?_
      rw [nI_clamp (n := i + 1) (by omega)]
      refine zr_callVi (rest := []) dL_law_575 vL_196 hr2 hy (by omega) (by omega) (by omega) rfl rfl (Nat.le_of_ble_eq_true rfl) (by decide) rfl (fun r3 u h3 => ?_)
      obtain ⟨er, F2, hI⟩ := h3
      have F3 : zFr σ u (fun q => x ≤ q ∧ q < x + 274) := zFr.tr F1 F2 (fun q hq => by unfold zMr at hq; omega)
      have ko2 := zFr.get F2 (by unfold zMr; omega) ko
      obtain ⟨F8, h8, e8⟩ := hI.oy
      refine zr_istore (ls' := [some (.ref ((zQ X 37))), some (.ref x), some (.ref ((x + 261))), some (.ref ((x + 273))), some (.ref ((x + 274))), some (.int (nI i)), some (.int 1), some (.int r3), l8]) dL_law_578 (by decide) rfl ?_
      refine zr_aload_n dL_law_580 rfl ?_
      refine zr_pVi (rest := []) dL_law_581 vL_173 (qX10_thrown hX h8) h8 (by omega) (by omega) (by omega) rfl rfl (Nat.le_of_ble_eq_true rfl) (by decide) rfl ?_
      refine zr_eqi (x' := 1) e8 ?_
      refine zr_iload dL_law_584 rfl ?_
      refine zr_icmp_eq (tgt := 591) dL_law_586 (by decide) (fun c_586 => ?_) (fun c_586 => absurd (by decide) c_586)
      refine zr_iload dL_law_591 rfl ?_
      refine zr_if_ne (tgt := 608) dL_law_593 (by decide) (fun c_593 => ?_) (fun c_593 => absurd c_593 (by decide))
      refine zr_goto (tgt := 2861) dL_law_608 (by decide) ?_
      exact zr_less (by omega) (by omega) (kk u _ _ _ _ hI F3 ko2)
    · skip
      cases hk

