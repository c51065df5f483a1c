/-! the law's blocks: one call of both each -/
abbrev mL_law : zMd := (RL, cL_law, 9, some .boolean, false, [])
abbrev zsL (X : zX) : Nat := X.2.2.2.2.2.1
abbrev zsx (X : zX) : Nat → Int32 := X.2.2.2.2.2.2
theorem zIv.ox {x y : Nat} {cd : Int32} {σ : zS} (h : zIv x y cd σ) : ∃ fs, σ.1 x = .inr (7, fs) := by
  obtain ⟨p, ⟨K, lf, h1, -⟩, -⟩ := h
  exact ⟨_, h1⟩
theorem zIv.oy {x y : Nat} {cd : Int32} {σ : zS} (h : zIv x y cd σ) : ∃ F, σ.1 y = zmO y F ∧ F 8 = cd := by
  obtain ⟨p, -, ⟨tm, dn, K, F, g, kp, sv, bf, ip, sg, td, h0, hf, -⟩, -⟩ := h
  exact ⟨F, h0, hf.2.2.2.2.1⟩
theorem zIv.fr {x : Nat} {cd : Int32} {σ s : zS} {Q : Nat → Prop} (h : zIv x (x + 261) cd σ) (F : zFr σ s Q) (hq : ∀ q, x ≤ q → q < x + 273 → ¬ Q q) : zIv x (x + 261) cd s := by
  obtain ⟨p, h1, h2, h3⟩ := h
  exact ⟨p, h1.fr F (fun q a b => hq q a (by omega)), h2.fr F (fun q a b => hq q (by omega) (by omega)), h3⟩
theorem lcmp_self (a : Int64) : lg_cmp a a = 0 := by
  unfold lg_cmp
  rw [if_neg (Int64.lt_irrefl), if_pos rfl]
set_option maxHeartbeats 400000 in
set_option maxRecDepth 100000 in
theorem blk_openCase {X : zX} (hX : X.1.stackTraces = false) {Q : zO → zS → Prop} {σ : zS} {x i bc bs : Nat} {l6 l7 l8 : Option Value} {f : Nat → Int64} (hQ : ∀ i j : Nat, i < 7 → j < 7 → zQ X i = zQ X j → i = j) (hi : i + 4 ≤ zsL X) (hs : zsL X < 2 ^ 31) (hI0 : zIv x (x + 261) 0 σ ∨ ∃ cd, zIv x (x + 261) cd σ) (hN : σ.2 = none) (ho : σ.1 (x + 273) = .inl (3, 1, .inr (.inl f))) (kk : ∀ (s : zS) (cd : Int32) (f2 : Nat → Int64) (m6 m7 : Option Value), zIv x (x + 261) cd s → zFr σ s (fun q => x ≤ q ∧ q < x + 274) → s.1 (x + 273) = .inl (3, 1, .inr (.inl f2)) → zW X mL_law 12 bc bs Q 2861 [some (.ref (zQ X 37)), some (.ref x), some (.ref (x + 261)), some (.ref (x + 273)), some (.ref (x + 274)), some (.int (nI i)), m6, m7, l8] [] s) : zW X mL_law 12 (bc + 1) (bs + 6) Q 260 [some (.ref (zQ X 37)), some (.ref x), some (.ref (x + 261)), some (.ref (x + 273)), some (.ref (x + 274)), some (.int (nI i)), l6, l7, l8] [] σ := by
  have hs2 : zsL X = X.2.2.2.2.2.1 := rfl
  obtain ⟨cd, hI⟩ : ∃ cd, zIv x (x + 261) cd σ := hI0.elim (fun h => ⟨_, h⟩) id
  obtain ⟨fs, hx⟩ := hI.ox
  obtain ⟨Fo, hyo, -⟩ := hI.oy
  obtain ⟨⟨A, S, m, U, n, T, ll, ln, hs1, kf, ld, dt, dc⟩, hK, hM, hL⟩ := hI
  refine zr_aload_n dL_law_260 rfl ?_
  refine zr_aload_n dL_law_261 rfl ?_
  have hsm := sem_openCase hX hK hM hL hN hQ
  rcases hsm with ⟨v, d1, mc, ms, Qs, d9, m1, m6, hc, hr⟩ | ⟨E, k, d1, mc, ms, Qs, hk, d9, m1, m6, hc, hr⟩
  · refine zr_callH (rest := []) dL_law_262 vL_167 (wOK_openCase hX hc hx (fun s2 hq => zFr.get (hr s2 hq).1 (by unfold zXr; omega) ho)) (by omega) (by omega) (by omega) rfl rfl (Nat.le_of_ble_eq_true rfl) rfl (fun v2 s1 h_ => ?_) (fun E1 s1 h_ => by obtain ⟨r, e, -⟩ := h_; cases e)
    obtain ⟨r, e, e2, s2, hq, et⟩ := h_
    cases e
    rw [e2]
    have F0 := (hr _ hq).1
    have hy0 := zFr.get F0 (by unfold zXr; omega) hyo
    have Ft : zFr s2 s1 (zOu x) := by rw [et]; exact ⟨rfl, fun a ha => zup_ne _ _ (fun z => ha (by unfold zOu; omega))⟩
    obtain ⟨d2, d29, hr2⟩ := (hr _ hq).2 s1 Ft
    have hy := zFr.get Ft (by unfold zOu; omega) hy0
    have F1 : zFr σ s1 (fun q => x ≤ q ∧ q < x + 274) := zFr.tr (F0.w (fun q hq => by unfold zXr at hq; omega)) (P := fun q => x ≤ q ∧ q < x + 274) (show zFr s2 s1 (fun q => x ≤ q ∧ q < x + 274) from by rw [et]; exact ⟨rfl, fun a ha => zup_ne _ _ (fun z => ha (by omega))⟩) (fun q hq => hq)
    have ko : s1.1 (x + 273) = .inl (3, 1, .inr (.inl (vp_updL f 0 v.toInt64))) := by rw [et]; exact zup_at _ _ _
    refine zr_istore (ls' := [some (.ref ((zQ X 37))), some (.ref x), some (.ref ((x + 261))), some (.ref ((x + 273))), some (.ref ((x + 274))), some (.int (nI i)), some (.int 0), l7, l8]) dL_law_265 (by decide) rfl ?_
    refine zr_aload_n dL_law_267 rfl ?_
    refine zr_callVi (rest := []) dL_law_268 vL_172 hr2 hy (by omega) (by omega) (by omega) rfl rfl (Nat.le_of_ble_eq_true rfl) (by decide) rfl (fun r3 u h3 => ?_)
    obtain ⟨er, F2, hI⟩ := h3
    rw [er]
    have F3 : zFr σ u (fun q => x ≤ q ∧ q < x + 274) := zFr.tr F1 F2 (fun q hq => by unfold zMr at hq; omega)
    have ko2 := zFr.get F2 (by unfold zMr; omega) ko
    obtain ⟨F8, h8, e8⟩ := hI.oy
    refine zr_istore (ls' := [some (.ref ((zQ X 37))), some (.ref x), some (.ref ((x + 261))), some (.ref ((x + 273))), some (.ref ((x + 274))), some (.int (nI i)), some (.int 0), some (.int v), l8]) dL_law_271 (by decide) rfl ?_
    refine zr_aload_n dL_law_273 rfl ?_
    refine zr_pVi (rest := []) dL_law_274 vL_173 (qX10_thrown hX h8) h8 (by omega) (by omega) (by omega) rfl rfl (Nat.le_of_ble_eq_true rfl) (by decide) rfl ?_
    refine zr_eqi (x' := 0) e8 ?_
    refine zr_iload dL_law_277 rfl ?_
    refine zr_icmp_eq (tgt := 284) dL_law_279 (by decide) (fun c_279 => ?_) (fun c_279 => absurd (by decide) c_279)
    refine zr_iload dL_law_284 rfl ?_
    refine zr_if_ne (tgt := 301) dL_law_286 (by decide) (fun c_286 => absurd (by decide) c_286) (fun c_286 => ?_)
    refine zr_aload_n dL_law_289 rfl ?_
    refine zr_iconst (v := 0) dL_law_290 (by decide) ?_
    refine zr_laload dL_law_291 ko2 (vp_in_nI (n := 0) (by omega) (by omega)) ?_
    rw [show (0 : Int32).toNatClampNeg = 0 from by decide]
    refine zr_eql (x' := v.toInt64) (by unfold vp_updL; rw [if_pos rfl]) ?_
    refine zr_iload dL_law_292 rfl ?_
    refine zr_i2l dL_law_294 ?_
    refine zr_lcmp dL_law_295 ?_
    refine zr_eqi (x' := 0) (lcmp_self _) ?_
    refine zr_if_eq (tgt := 301) dL_law_296 (by decide) (fun c_296 => ?_) (fun c_296 => absurd (by decide) c_296)
    refine zr_goto (tgt := 2861) dL_law_301 (by decide) ?_
    exact zr_less (by omega) (by omega) (kk u _ _ _ _ hI F3 ko2)
  · skip
    rcases List.mem_cons.mp hk with ek | hk
    · cases ek
      refine zr_callH (rest := []) dL_law_262 vL_167 (wN1_openCase hX hc hx) (by omega) (by omega) (by omega) rfl rfl (Nat.le_of_ble_eq_true rfl) rfl (fun v2 s1 h_ => ?_) (fun E1 s1 h_ => by obtain ⟨r, e, -⟩ := h_; cases e)
      obtain ⟨r, e, e2, hq⟩ := h_
      cases e
      rw [e2]
      have F0 := (hr _ hq).1
      have hy0 := zFr.get F0 (by unfold zXr; omega) hyo
      obtain ⟨d2, d29, hr2⟩ := (hr _ hq).2 s1 zFr.rf
      have hy := hy0
      have F1 : zFr σ s1 (fun q => x ≤ q ∧ q < x + 274) := F0.w (fun q hq => by unfold zXr at hq; omega)
      have ko := zFr.get F0 (by unfold zXr; omega) ho
      refine zr_istore (ls' := [some (.ref ((zQ X 37))), some (.ref x), some (.ref ((x + 261))), some (.ref ((x + 273))), some (.ref ((x + 274))), some (.int (nI i)), some (.int 1), l7, l8]) dL_law_265 (by decide) rfl ?_
      refine zr_aload_n dL_law_267 rfl ?_
      refine zr_callVi (rest := []) dL_law_268 vL_172 hr2 hy (by omega) (by omega) (by omega) rfl rfl (Nat.le_of_ble_eq_true rfl) (by decide) rfl (fun r3 u h3 => ?_)
      obtain ⟨er, F2, hI⟩ := h3
      have F3 : zFr σ u (fun q => x ≤ q ∧ q < x + 274) := zFr.tr F1 F2 (fun q hq => by unfold zMr at hq; omega)
      have ko2 := zFr.get F2 (by unfold zMr; omega) ko
      obtain ⟨F8, h8, e8⟩ := hI.oy
      refine zr_istore (ls' := [some (.ref ((zQ X 37))), some (.ref x), some (.ref ((x + 261))), some (.ref ((x + 273))), some (.ref ((x + 274))), some (.int (nI i)), some (.int 1), some (.int r3), l8]) dL_law_271 (by decide) rfl ?_
      refine zr_aload_n dL_law_273 rfl ?_
      refine zr_pVi (rest := []) dL_law_274 vL_173 (qX10_thrown hX h8) h8 (by omega) (by omega) (by omega) rfl rfl (Nat.le_of_ble_eq_true rfl) (by decide) rfl ?_
      refine zr_eqi (x' := 1) e8 ?_
      refine zr_iload dL_law_277 rfl ?_
      refine zr_icmp_eq (tgt := 284) dL_law_279 (by decide) (fun c_279 => ?_) (fun c_279 => absurd (by decide) c_279)
      refine zr_iload dL_law_284 rfl ?_
      refine zr_if_ne (tgt := 301) dL_law_286 (by decide) (fun c_286 => ?_) (fun c_286 => absurd c_286 (by decide))
      refine zr_goto (tgt := 2861) dL_law_301 (by decide) ?_
      exact zr_less (by omega) (by omega) (kk u _ _ _ _ hI F3 ko2)
    · skip
      cases hk

set_option maxHeartbeats 400000 in
set_option maxRecDepth 100000 in
theorem blk_cross {X : zX} (hX : X.1.stackTraces = false) {Q : zO → zS → Prop} {σ : zS} {x i bc bs : Nat} {l6 l7 l8 : Option Value} {f : Nat → Int64} (hQ : ∀ i j : Nat, i < 7 → j < 7 → zQ X i = zQ X j → i = j) (hi : i + 4 ≤ zsL X) (hs : zsL X < 2 ^ 31) (hI0 : zIv x (x + 261) 0 σ ∨ ∃ cd, zIv x (x + 261) cd σ) (hN : σ.2 = none) (ho : σ.1 (x + 273) = .inl (3, 1, .inr (.inl f))) (kk : ∀ (s : zS) (cd : Int32) (f2 : Nat → Int64) (m6 m7 : Option Value), zIv x (x + 261) cd s → zFr σ s (fun q => x ≤ q ∧ q < x + 274) → s.1 (x + 273) = .inl (3, 1, .inr (.inl f2)) → zW X mL_law 12 bc bs Q 2861 [some (.ref (zQ X 37)), some (.ref x), some (.ref (x + 261)), some (.ref (x + 273)), some (.ref (x + 274)), some (.int (nI i)), m6, m7, l8] [] s) : zW X mL_law 12 (bc + 1) (bs + 6) Q 304 [some (.ref (zQ X 37)), some (.ref x), some (.ref (x + 261)), some (.ref (x + 273)), some (.ref (x + 274)), some (.int (nI i)), l6, l7, l8] [] σ := by
  have hs2 : zsL X = X.2.2.2.2.2.1 := rfl
  obtain ⟨cd, hI⟩ : ∃ cd, zIv x (x + 261) cd σ := hI0.elim (fun h => ⟨_, h⟩) id
  obtain ⟨fs, hx⟩ := hI.ox
  obtain ⟨Fo, hyo, -⟩ := hI.oy
  obtain ⟨⟨A, S, m, U, n, T, ll, ln, hs1, kf, ld, dt, dc⟩, hK, hM, hL⟩ := hI
  refine zr_aload_n dL_law_304 rfl ?_
  refine zr_aload_n dL_law_305 rfl ?_
  refine zr_iload dL_law_306 rfl ?_
  refine zr_iconst (v := 1) dL_law_308 (by decide) ?_
  refine zr_iadd dL_law_309 ?_
  refine zr_eqi (x' := nI (i + 1)) (nI_add i 1) ?_
  refine zr_sat dL_law_310 (vp_in_nI (n := i + 1) (by omega) (by omega)) ?_
  rw [nI_clamp (n := i + 1) (by omega)]
  refine zr_aload_n dL_law_311 rfl ?_
  refine zr_iload dL_law_312 rfl ?_
  refine zr_iconst (v := 2) dL_law_314 (by decide) ?_
  refine zr_iadd dL_law_315 ?_
  refine zr_eqi (x' := nI (i + 2)) (nI_add i 2) ?_
  refine zr_sat dL_law_316 (vp_in_nI (n := i + 2) (by omega) (by omega)) ?_
  rw [nI_clamp (n := i + 2) (by omega)]
  refine zr_i2c dL_law_317 ?_
  refine zr_aload_n dL_law_318 rfl ?_
  have hsm := sem_cross hX hK hM hL hN hQ (X.2.2.2.2.2.2 (i + 1)) ((((X.2.2.2.2.2.2 (i + 2))).toUInt32 % 65536).toInt32)
  rcases hsm with ⟨v, d1, mc, ms, Qs, d9, m1, m6, hc, hr⟩ | ⟨E, k, d1, mc, ms, Qs, hk, d9, m1, m6, hc, hr⟩
  · refine zr_callH (rest := []) dL_law_319 vL_176 (wOK_cross hX hc hx (fun s2 hq => zFr.get (hr s2 hq).1 (by unfold zXr; omega) ho)) (by omega) (by omega) (by omega) rfl rfl (Nat.le_of_ble_eq_true rfl) rfl (fun v2 s1 h_ => ?_) (fun E1 s1 h_ => by obtain ⟨r, e, -⟩ := h_; cases e)
    obtain ⟨r, e, e2, s2, hq, et⟩ := h_
    cases e
    rw [e2]
    have F0 := (hr _ hq).1
    have hy0 := zFr.get F0 (by unfold zXr; omega) hyo
    have Ft : zFr s2 s1 (zOu x) := by rw [et]; exact ⟨rfl, fun a ha => zup_ne _ _ (fun z => ha (by unfold zOu; omega))⟩
    obtain ⟨d2, d29, hr2⟩ := (hr _ hq).2 s1 Ft
    have hy := zFr.get Ft (by unfold zOu; omega) hy0
    have F1 : zFr σ s1 (fun q => x ≤ q ∧ q < x + 274) := zFr.tr (F0.w (fun q hq => by unfold zXr at hq; omega)) (P := fun q => x ≤ q ∧ q < x + 274) (show zFr s2 s1 (fun q => x ≤ q ∧ q < x + 274) from by rw [et]; exact ⟨rfl, fun a ha => zup_ne _ _ (fun z => ha (by omega))⟩) (fun q hq => hq)
    have ko : s1.1 (x + 273) = .inl (3, 1, .inr (.inl (vp_updL f 0 v.toInt64))) := by rw [et]; exact zup_at _ _ _
    refine zr_istore (ls' := [some (.ref ((zQ X 37))), some (.ref x), some (.ref ((x + 261))), some (.ref ((x + 273))), some (.ref ((x + 274))), some (.int (nI i)), some (.int 0), l7, l8]) dL_law_322 (by decide) rfl ?_
    refine zr_aload_n dL_law_324 rfl ?_
    refine zr_aload_n dL_law_325 rfl ?_
    refine zr_iload dL_law_326 rfl ?_
    refine zr_iconst (v := 1) dL_law_328 (by decide) ?_
    refine zr_iadd dL_law_329 ?_
    refine zr_eqi (x' := nI (i + 1)) (nI_add i 1) ?_
    refine zr_sat dL_law_330 (vp_in_nI (n := i + 1) (by omega) (by omega)) ?_
    rw [nI_clamp (n := i + 1) (by omega)]
    refine zr_aload_n dL_law_331 rfl ?_
    refine zr_iload dL_law_332 rfl ?_
    refine zr_iconst (v := 2) dL_law_334 (by decide) ?_
    refine zr_iadd dL_law_335 ?_
    refine zr_eqi (x' := nI (i + 2)) (nI_add i 2) ?_
    refine zr_sat dL_law_336 (vp_in_nI (n := i + 2) (by omega) (by omega)) ?_
    rw [nI_clamp (n := i + 2) (by omega)]
    refine zr_i2c dL_law_337 ?_
    refine zr_callVi (rest := []) dL_law_338 vL_179 hr2 hy (by omega) (by omega) (by omega) rfl rfl (Nat.le_of_ble_eq_true rfl) (by decide) rfl (fun r3 u h3 => ?_)
    obtain ⟨er, F2, hI⟩ := h3
    rw [er]
    have F3 : zFr σ u (fun q => x ≤ q ∧ q < x + 274) := zFr.tr F1 F2 (fun q hq => by unfold zMr at hq; omega)
    have ko2 := zFr.get F2 (by unfold zMr; omega) ko
    obtain ⟨F8, h8, e8⟩ := hI.oy
    refine zr_istore (ls' := [some (.ref ((zQ X 37))), some (.ref x), some (.ref ((x + 261))), some (.ref ((x + 273))), some (.ref ((x + 274))), some (.int (nI i)), some (.int 0), some (.int v), l8]) dL_law_341 (by decide) rfl ?_
    refine zr_aload_n dL_law_343 rfl ?_
    refine zr_pVi (rest := []) dL_law_344 vL_173 (qX10_thrown hX h8) h8 (by omega) (by omega) (by omega) rfl rfl (Nat.le_of_ble_eq_true rfl) (by decide) rfl ?_
    refine zr_eqi (x' := 0) e8 ?_
    refine zr_iload dL_law_347 rfl ?_
    refine zr_icmp_eq (tgt := 354) dL_law_349 (by decide) (fun c_349 => ?_) (fun c_349 => absurd (by decide) c_349)
    refine zr_iload dL_law_354 rfl ?_
    refine zr_if_ne (tgt := 371) dL_law_356 (by decide) (fun c_356 => absurd (by decide) c_356) (fun c_356 => ?_)
    refine zr_aload_n dL_law_359 rfl ?_
    refine zr_iconst (v := 0) dL_law_360 (by decide) ?_
    refine zr_laload dL_law_361 ko2 (vp_in_nI (n := 0) (by omega) (by omega)) ?_
    rw [show (0 : Int32).toNatClampNeg = 0 from by decide]
    refine zr_eql (x' := v.toInt64) (by unfold vp_updL; rw [if_pos rfl]) ?_
    refine zr_iload dL_law_362 rfl ?_
    refine zr_i2l dL_law_364 ?_
    refine zr_lcmp dL_law_365 ?_
    refine zr_eqi (x' := 0) (lcmp_self _) ?_
    refine zr_if_eq (tgt := 371) dL_law_366 (by decide) (fun c_366 => ?_) (fun c_366 => absurd (by decide) c_366)
    refine zr_goto (tgt := 2861) dL_law_371 (by decide) ?_
    exact zr_less (by omega) (by omega) (kk u _ _ _ _ hI F3 ko2)
  · skip
    rcases List.mem_cons.mp hk with ek | hk
    · cases ek
      refine zr_callH (rest := []) dL_law_319 vL_176 (wN1_cross hX hc hx) (by omega) (by omega) (by omega) rfl rfl (Nat.le_of_ble_eq_true rfl) rfl (fun v2 s1 h_ => ?_) (fun E1 s1 h_ => by obtain ⟨r, e, -⟩ := h_; cases e)
      obtain ⟨r, e, e2, hq⟩ := h_
      cases e
      rw [e2]
      have F0 := (hr _ hq).1
      have hy0 := zFr.get F0 (by unfold zXr; omega) hyo
      obtain ⟨d2, d29, hr2⟩ := (hr _ hq).2 s1 zFr.rf
      have hy := hy0
      have F1 : zFr σ s1 (fun q => x ≤ q ∧ q < x + 274) := F0.w (fun q hq => by unfold zXr at hq; omega)
      have ko := zFr.get F0 (by unfold zXr; omega) ho
      refine zr_istore (ls' := [some (.ref ((zQ X 37))), some (.ref x), some (.ref ((x + 261))), some (.ref ((x + 273))), some (.ref ((x + 274))), some (.int (nI i)), some (.int 1), l7, l8]) dL_law_322 (by decide) rfl ?_
      refine zr_aload_n dL_law_324 rfl ?_
      refine zr_aload_n dL_law_325 rfl ?_
      refine zr_iload dL_law_326 rfl ?_
      refine zr_iconst (v := 1) dL_law_328 (by decide) ?_
      refine zr_iadd dL_law_329 ?_
      refine zr_eqi (x' := nI (i + 1)) (nI_add i 1) ?_
      refine zr_sat dL_law_330 (vp_in_nI (n := i + 1) (by omega) (by omega)) ?_
      rw [nI_clamp (n := i + 1) (by omega)]
      refine zr_aload_n dL_law_331 rfl ?_
      refine zr_iload dL_law_332 rfl ?_
      refine zr_iconst (v := 2) dL_law_334 (by decide) ?_
      refine zr_iadd dL_law_335 ?_
      refine zr_eqi (x' := nI (i + 2)) (nI_add i 2) ?_
      refine zr_sat dL_law_336 (vp_in_nI (n := i + 2) (by omega) (by omega)) ?_
      rw [nI_clamp (n := i + 2) (by omega)]
      refine zr_i2c dL_law_337 ?_
      refine zr_callVi (rest := []) dL_law_338 vL_179 hr2 hy (by omega) (by omega) (by omega) rfl rfl (Nat.le_of_ble_eq_true rfl) (by decide) rfl (fun r3 u h3 => ?_)
      obtain ⟨er, F2, hI⟩ := h3
      have F3 : zFr σ u (fun q => x ≤ q ∧ q < x + 274) := zFr.tr F1 F2 (fun q hq => by unfold zMr at hq; omega)
      have ko2 := zFr.get F2 (by unfold zMr; omega) ko
      obtain ⟨F8, h8, e8⟩ := hI.oy
      refine zr_istore (ls' := [some (.ref ((zQ X 37))), some (.ref x), some (.ref ((x + 261))), some (.ref ((x + 273))), some (.ref ((x + 274))), some (.int (nI i)), some (.int 1), some (.int r3), l8]) dL_law_341 (by decide) rfl ?_
      refine zr_aload_n dL_law_343 rfl ?_
      refine zr_pVi (rest := []) dL_law_344 vL_173 (qX10_thrown hX h8) h8 (by omega) (by omega) (by omega) rfl rfl (Nat.le_of_ble_eq_true rfl) (by decide) rfl ?_
      refine zr_eqi (x' := 1) e8 ?_
      refine zr_iload dL_law_347 rfl ?_
      refine zr_icmp_eq (tgt := 354) dL_law_349 (by decide) (fun c_349 => ?_) (fun c_349 => absurd (by decide) c_349)
      refine zr_iload dL_law_354 rfl ?_
      refine zr_if_ne (tgt := 371) dL_law_356 (by decide) (fun c_356 => ?_) (fun c_356 => absurd c_356 (by decide))
      refine zr_goto (tgt := 2861) dL_law_371 (by decide) ?_
      exact zr_less (by omega) (by omega) (kk u _ _ _ _ hI F3 ko2)
    · skip
      rcases List.mem_cons.mp hk with ek | hk
      · cases ek
        refine zr_callH (rest := []) dL_law_319 vL_176 (wN2_cross hX hc hx) (by omega) (by omega) (by omega) rfl rfl (Nat.le_of_ble_eq_true rfl) rfl (fun v2 s1 h_ => ?_) (fun E1 s1 h_ => by obtain ⟨r, e, -⟩ := h_; cases e)
        obtain ⟨r, e, e2, hq⟩ := h_
        cases e
        rw [e2]
        have F0 := (hr _ hq).1
        have hy0 := zFr.get F0 (by unfold zXr; omega) hyo
        obtain ⟨d2, d29, hr2⟩ := (hr _ hq).2 s1 zFr.rf
        have hy := hy0
        have F1 : zFr σ s1 (fun q => x ≤ q ∧ q < x + 274) := F0.w (fun q hq => by unfold zXr at hq; omega)
        have ko := zFr.get F0 (by unfold zXr; omega) ho
        refine zr_istore (ls' := [some (.ref ((zQ X 37))), some (.ref x), some (.ref ((x + 261))), some (.ref ((x + 273))), some (.ref ((x + 274))), some (.int (nI i)), some (.int 2), l7, l8]) dL_law_322 (by decide) rfl ?_
        refine zr_aload_n dL_law_324 rfl ?_
        refine zr_aload_n dL_law_325 rfl ?_
        refine zr_iload dL_law_326 rfl ?_
        refine zr_iconst (v := 1) dL_law_328 (by decide) ?_
        refine zr_iadd dL_law_329 ?_
        refine zr_eqi (x' := nI (i + 1)) (nI_add i 1) ?_
        refine zr_sat dL_law_330 (vp_in_nI (n := i + 1) (by omega) (by omega)) ?_
        rw [nI_clamp (n := i + 1) (by omega)]
        refine zr_aload_n dL_law_331 rfl ?_
        refine zr_iload dL_law_332 rfl ?_
        refine zr_iconst (v := 2) dL_law_334 (by decide) ?_
        refine zr_iadd dL_law_335 ?_
        refine zr_eqi (x' := nI (i + 2)) (nI_add i 2) ?_
        refine zr_sat dL_law_336 (vp_in_nI (n := i + 2) (by omega) (by omega)) ?_
        rw [nI_clamp (n := i + 2) (by omega)]
        refine zr_i2c dL_law_337 ?_
        refine zr_callVi (rest := []) dL_law_338 vL_179 hr2 hy (by omega) (by omega) (by omega) rfl rfl (Nat.le_of_ble_eq_true rfl) (by decide) rfl (fun r3 u h3 => ?_)
        obtain ⟨er, F2, hI⟩ := h3
        have F3 : zFr σ u (fun q => x ≤ q ∧ q < x + 274) := zFr.tr F1 F2 (fun q hq => by unfold zMr at hq; omega)
        have ko2 := zFr.get F2 (by unfold zMr; omega) ko
        obtain ⟨F8, h8, e8⟩ := hI.oy
        refine zr_istore (ls' := [some (.ref ((zQ X 37))), some (.ref x), some (.ref ((x + 261))), some (.ref ((x + 273))), some (.ref ((x + 274))), some (.int (nI i)), some (.int 2), some (.int r3), l8]) dL_law_341 (by decide) rfl ?_
        refine zr_aload_n dL_law_343 rfl ?_
        refine zr_pVi (rest := []) dL_law_344 vL_173 (qX10_thrown hX h8) h8 (by omega) (by omega) (by omega) rfl rfl (Nat.le_of_ble_eq_true rfl) (by decide) rfl ?_
        refine zr_eqi (x' := 2) e8 ?_
        refine zr_iload dL_law_347 rfl ?_
        refine zr_icmp_eq (tgt := 354) dL_law_349 (by decide) (fun c_349 => ?_) (fun c_349 => absurd (by decide) c_349)
        refine zr_iload dL_law_354 rfl ?_
        refine zr_if_ne (tgt := 371) dL_law_356 (by decide) (fun c_356 => ?_) (fun c_356 => absurd c_356 (by decide))
        refine zr_goto (tgt := 2861) dL_law_371 (by decide) ?_
        exact zr_less (by omega) (by omega) (kk u _ _ _ _ hI F3 ko2)
      · skip
        rcases List.mem_cons.mp hk with ek | hk
        · cases ek
          refine zr_callH (rest := []) dL_law_319 vL_176 (wN3_cross hX hc hx) (by omega) (by omega) (by omega) rfl rfl (Nat.le_of_ble_eq_true rfl) rfl (fun v2 s1 h_ => ?_) (fun E1 s1 h_ => by obtain ⟨r, e, -⟩ := h_; cases e)
          obtain ⟨r, e, e2, hq⟩ := h_
          cases e
          rw [e2]
          have F0 := (hr _ hq).1
          have hy0 := zFr.get F0 (by unfold zXr; omega) hyo
          obtain ⟨d2, d29, hr2⟩ := (hr _ hq).2 s1 zFr.rf
          have hy := hy0
          have F1 : zFr σ s1 (fun q => x ≤ q ∧ q < x + 274) := F0.w (fun q hq => by unfold zXr at hq; omega)
          have ko := zFr.get F0 (by unfold zXr; omega) ho
          refine zr_istore (ls' := [some (.ref ((zQ X 37))), some (.ref x), some (.ref ((x + 261))), some (.ref ((x + 273))), some (.ref ((x + 274))), some (.int (nI i)), some (.int 3), l7, l8]) dL_law_322 (by decide) rfl ?_
          refine zr_aload_n dL_law_324 rfl ?_
          refine zr_aload_n dL_law_325 rfl ?_
          refine zr_iload dL_law_326 rfl ?_
          refine zr_iconst (v := 1) dL_law_328 (by decide) ?_
          refine zr_iadd dL_law_329 ?_
          refine zr_eqi (x' := nI (i + 1)) (nI_add i 1) ?_
          refine zr_sat dL_law_330 (vp_in_nI (n := i + 1) (by omega) (by omega)) ?_
          rw [nI_clamp (n := i + 1) (by omega)]
          refine zr_aload_n dL_law_331 rfl ?_
          refine zr_iload dL_law_332 rfl ?_
          refine zr_iconst (v := 2) dL_law_334 (by decide) ?_
          refine zr_iadd dL_law_335 ?_
          refine zr_eqi (x' := nI (i + 2)) (nI_add i 2) ?_
          refine zr_sat dL_law_336 (vp_in_nI (n := i + 2) (by omega) (by omega)) ?_
          rw [nI_clamp (n := i + 2) (by omega)]
          refine zr_i2c dL_law_337 ?_
          refine zr_callVi (rest := []) dL_law_338 vL_179 hr2 hy (by omega) (by omega) (by omega) rfl rfl (Nat.le_of_ble_eq_true rfl) (by decide) rfl (fun r3 u h3 => ?_)
          obtain ⟨er, F2, hI⟩ := h3
          have F3 : zFr σ u (fun q => x ≤ q ∧ q < x + 274) := zFr.tr F1 F2 (fun q hq => by unfold zMr at hq; omega)
          have ko2 := zFr.get F2 (by unfold zMr; omega) ko
          obtain ⟨F8, h8, e8⟩ := hI.oy
          refine zr_istore (ls' := [some (.ref ((zQ X 37))), some (.ref x), some (.ref ((x + 261))), some (.ref ((x + 273))), some (.ref ((x + 274))), some (.int (nI i)), some (.int 3), some (.int r3), l8]) dL_law_341 (by decide) rfl ?_
          refine zr_aload_n dL_law_343 rfl ?_
          refine zr_pVi (rest := []) dL_law_344 vL_173 (qX10_thrown hX h8) h8 (by omega) (by omega) (by omega) rfl rfl (Nat.le_of_ble_eq_true rfl) (by decide) rfl ?_
          refine zr_eqi (x' := 3) e8 ?_
          refine zr_iload dL_law_347 rfl ?_
          refine zr_icmp_eq (tgt := 354) dL_law_349 (by decide) (fun c_349 => ?_) (fun c_349 => absurd (by decide) c_349)
          refine zr_iload dL_law_354 rfl ?_
          refine zr_if_ne (tgt := 371) dL_law_356 (by decide) (fun c_356 => ?_) (fun c_356 => absurd c_356 (by decide))
          refine zr_goto (tgt := 2861) dL_law_371 (by decide) ?_
          exact zr_less (by omega) (by omega) (kk u _ _ _ _ hI F3 ko2)
        · skip
          cases hk

set_option maxHeartbeats 400000 in
set_option maxRecDepth 100000 in
theorem blk_cutLast {X : zX} (hX : X.1.stackTraces = false) {Q : zO → zS → Prop} {σ : zS} {x i bc bs : Nat} {l6 l7 l8 : Option Value} {f : Nat → Int64} (hQ : ∀ i j : Nat, i < 7 → j < 7 → zQ X i = zQ X j → i = j) (hi : i + 4 ≤ zsL X) (hs : zsL X < 2 ^ 31) (hI0 : zIv x (x + 261) 0 σ ∨ ∃ cd, zIv x (x + 261) cd σ) (hN : σ.2 = none) (ho : σ.1 (x + 273) = .inl (3, 1, .inr (.inl f))) (kk : ∀ (s : zS) (cd : Int32) (f2 : Nat → Int64) (m6 m7 : Option Value), zIv x (x + 261) cd s → zFr σ s (fun q => x ≤ q ∧ q < x + 274) → s.1 (x + 273) = .inl (3, 1, .inr (.inl f2)) → zW X mL_law 12 bc bs Q 2861 [some (.ref (zQ X 37)), some (.ref x), some (.ref (x + 261)), some (.ref (x + 273)), some (.ref (x + 274)), some (.int (nI i)), m6, m7, l8] [] s) : zW X mL_law 12 (bc + 1) (bs + 6) Q 374 [some (.ref (zQ X 37)), some (.ref x), some (.ref (x + 261)), some (.ref (x + 273)), some (.ref (x + 274)), some (.int (nI i)), l6, l7, l8] [] σ := by
  have hs2 : zsL X = X.2.2.2.2.2.1 := rfl
  obtain ⟨cd, hI⟩ : ∃ cd, zIv x (x + 261) cd σ := hI0.elim (fun h => ⟨_, h⟩) id
  obtain ⟨fs, hx⟩ := hI.ox
  obtain ⟨Fo, hyo, -⟩ := hI.oy
  obtain ⟨⟨A, S, m, U, n, T, ll, ln, hs1, kf, ld, dt, dc⟩, hK, hM, hL⟩ := hI
  refine zr_aload_n dL_law_374 rfl ?_
  refine zr_aload_n dL_law_375 rfl ?_
  refine zr_iload dL_law_376 rfl ?_
  refine zr_iconst (v := 1) dL_law_378 (by decide) ?_
  refine zr_iadd dL_law_379 ?_
  refine zr_eqi (x' := nI (i + 1)) (nI_add i 1) ?_
  refine zr_sat dL_law_380 (vp_in_nI (n := i + 1) (by omega) (by omega)) ?_
  rw [nI_clamp (n := i + 1) (by omega)]
  refine zr_aload_n dL_law_381 rfl ?_
  have hsm := sem_cutLast hX hK hM hL hN hQ (X.2.2.2.2.2.2 (i + 1))
  rcases hsm with ⟨v, d1, mc, ms, Qs, d9, m1, m6, hc, hr⟩ | ⟨E, k, d1, mc, ms, Qs, hk, d9, m1, m6, hc, hr⟩
  · refine zr_callH (rest := []) dL_law_382 vL_180 (wOK_cutLast hX hc hx (fun s2 hq => zFr.get (hr s2 hq).1 (by unfold zXr; omega) ho)) (by omega) (by omega) (by omega) rfl rfl (Nat.le_of_ble_eq_true rfl) rfl (fun v2 s1 h_ => ?_) (fun E1 s1 h_ => by obtain ⟨r, e, -⟩ := h_; cases e)
    obtain ⟨r, e, e2, s2, hq, et⟩ := h_
    cases e
    rw [e2]
    have F0 := (hr _ hq).1
    have hy0 := zFr.get F0 (by unfold zXr; omega) hyo
    have Ft : zFr s2 s1 (zOu x) := by rw [et]; exact ⟨rfl, fun a ha => zup_ne _ _ (fun z => ha (by unfold zOu; omega))⟩
    obtain ⟨d2, d29, hr2⟩ := (hr _ hq).2 s1 Ft
    have hy := zFr.get Ft (by unfold zOu; omega) hy0
    have F1 : zFr σ s1 (fun q => x ≤ q ∧ q < x + 274) := zFr.tr (F0.w (fun q hq => by unfold zXr at hq; omega)) (P := fun q => x ≤ q ∧ q < x + 274) (show zFr s2 s1 (fun q => x ≤ q ∧ q < x + 274) from by rw [et]; exact ⟨rfl, fun a ha => zup_ne _ _ (fun z => ha (by omega))⟩) (fun q hq => hq)
    have ko : s1.1 (x + 273) = .inl (3, 1, .inr (.inl (vp_updL f 0 v.toInt64))) := by rw [et]; exact zup_at _ _ _
    refine zr_istore (ls' := [some (.ref ((zQ X 37))), some (.ref x), some (.ref ((x + 261))), some (.ref ((x + 273))), some (.ref ((x + 274))), some (.int (nI i)), some (.int 0), l7, l8]) dL_law_385 (by decide) rfl ?_
    refine zr_aload_n dL_law_387 rfl ?_
    refine zr_aload_n dL_law_388 rfl ?_
    refine zr_iload dL_law_389 rfl ?_
    refine zr_iconst (v := 1) dL_law_391 (by decide) ?_
    refine zr_iadd dL_law_392 ?_
    refine zr_eqi (x' := nI (i + 1)) (nI_add i 1) ?_
    refine zr_sat dL_law_393 (vp_in_nI (n := i + 1) (by omega) (by omega)) ?_
    rw [nI_clamp (n := i + 1) (by omega)]
    refine zr_callVi (rest := []) dL_law_394 vL_183 hr2 hy (by omega) (by omega) (by omega) rfl rfl (Nat.le_of_ble_eq_true rfl) (by decide) rfl (fun r3 u h3 => ?_)
    obtain ⟨er, F2, hI⟩ := h3
    rw [er]
    have F3 : zFr σ u (fun q => x ≤ q ∧ q < x + 274) := zFr.tr F1 F2 (fun q hq => by unfold zMr at hq; omega)
    have ko2 := zFr.get F2 (by unfold zMr; omega) ko
    obtain ⟨F8, h8, e8⟩ := hI.oy
    refine zr_istore (ls' := [some (.ref ((zQ X 37))), some (.ref x), some (.ref ((x + 261))), some (.ref ((x + 273))), some (.ref ((x + 274))), some (.int (nI i)), some (.int 0), some (.int v), l8]) dL_law_397 (by decide) rfl ?_
    refine zr_aload_n dL_law_399 rfl ?_
    refine zr_pVi (rest := []) dL_law_400 vL_173 (qX10_thrown hX h8) h8 (by omega) (by omega) (by omega) rfl rfl (Nat.le_of_ble_eq_true rfl) (by decide) rfl ?_
    refine zr_eqi (x' := 0) e8 ?_
    refine zr_iload dL_law_403 rfl ?_
    refine zr_icmp_eq (tgt := 410) dL_law_405 (by decide) (fun c_405 => ?_) (fun c_405 => absurd (by decide) c_405)
    refine zr_iload dL_law_410 rfl ?_
    refine zr_if_ne (tgt := 427) dL_law_412 (by decide) (fun c_412 => absurd (by decide) c_412) (fun c_412 => ?_)
    refine zr_aload_n dL_law_415 rfl ?_
    refine zr_iconst (v := 0) dL_law_416 (by decide) ?_
    refine zr_laload dL_law_417 ko2 (vp_in_nI (n := 0) (by omega) (by omega)) ?_
    rw [show (0 : Int32).toNatClampNeg = 0 from by decide]
    refine zr_eql (x' := v.toInt64) (by unfold vp_updL; rw [if_pos rfl]) ?_
    refine zr_iload dL_law_418 rfl ?_
    refine zr_i2l dL_law_420 ?_
    refine zr_lcmp dL_law_421 ?_
    refine zr_eqi (x' := 0) (lcmp_self _) ?_
    refine zr_if_eq (tgt := 427) dL_law_422 (by decide) (fun c_422 => ?_) (fun c_422 => absurd (by decide) c_422)
    refine zr_goto (tgt := 2861) dL_law_427 (by decide) ?_
    exact zr_less (by omega) (by omega) (kk u _ _ _ _ hI F3 ko2)
  · skip
    rcases List.mem_cons.mp hk with ek | hk
    · cases ek
      refine zr_callH (rest := []) dL_law_382 vL_180 (wN1_cutLast hX hc hx) (by omega) (by omega) (by omega) rfl rfl (Nat.le_of_ble_eq_true rfl) rfl (fun v2 s1 h_ => ?_) (fun E1 s1 h_ => by obtain ⟨r, e, -⟩ := h_; cases e)
      obtain ⟨r, e, e2, hq⟩ := h_
      cases e
      rw [e2]
      have F0 := (hr _ hq).1
      have hy0 := zFr.get F0 (by unfold zXr; omega) hyo
      obtain ⟨d2, d29, hr2⟩ := (hr _ hq).2 s1 zFr.rf
      have hy := hy0
      have F1 : zFr σ s1 (fun q => x ≤ q ∧ q < x + 274) := F0.w (fun q hq => by unfold zXr at hq; omega)
      have ko := zFr.get F0 (by unfold zXr; omega) ho
      refine zr_istore (ls' := [some (.ref ((zQ X 37))), some (.ref x), some (.ref ((x + 261))), some (.ref ((x + 273))), some (.ref ((x + 274))), some (.int (nI i)), some (.int 1), l7, l8]) dL_law_385 (by decide) rfl ?_
      refine zr_aload_n dL_law_387 rfl ?_
      refine zr_aload_n dL_law_388 rfl ?_
      refine zr_iload dL_law_389 rfl ?_
      refine zr_iconst (v := 1) dL_law_391 (by decide) ?_
      refine zr_iadd dL_law_392 ?_
      refine zr_eqi (x' := nI (i + 1)) (nI_add i 1) ?_
      refine zr_sat dL_law_393 (vp_in_nI (n := i + 1) (by omega) (by omega)) ?_
      rw [nI_clamp (n := i + 1) (by omega)]
      refine zr_callVi (rest := []) dL_law_394 vL_183 hr2 hy (by omega) (by omega) (by omega) rfl rfl (Nat.le_of_ble_eq_true rfl) (by decide) rfl (fun r3 u h3 => ?_)
      obtain ⟨er, F2, hI⟩ := h3
      have F3 : zFr σ u (fun q => x ≤ q ∧ q < x + 274) := zFr.tr F1 F2 (fun q hq => by unfold zMr at hq; omega)
      have ko2 := zFr.get F2 (by unfold zMr; omega) ko
      obtain ⟨F8, h8, e8⟩ := hI.oy
      refine zr_istore (ls' := [some (.ref ((zQ X 37))), some (.ref x), some (.ref ((x + 261))), some (.ref ((x + 273))), some (.ref ((x + 274))), some (.int (nI i)), some (.int 1), some (.int r3), l8]) dL_law_397 (by decide) rfl ?_
      refine zr_aload_n dL_law_399 rfl ?_
      refine zr_pVi (rest := []) dL_law_400 vL_173 (qX10_thrown hX h8) h8 (by omega) (by omega) (by omega) rfl rfl (Nat.le_of_ble_eq_true rfl) (by decide) rfl ?_
      refine zr_eqi (x' := 1) e8 ?_
      refine zr_iload dL_law_403 rfl ?_
      refine zr_icmp_eq (tgt := 410) dL_law_405 (by decide) (fun c_405 => ?_) (fun c_405 => absurd (by decide) c_405)
      refine zr_iload dL_law_410 rfl ?_
      refine zr_if_ne (tgt := 427) dL_law_412 (by decide) (fun c_412 => ?_) (fun c_412 => absurd c_412 (by decide))
      refine zr_goto (tgt := 2861) dL_law_427 (by decide) ?_
      exact zr_less (by omega) (by omega) (kk u _ _ _ _ hI F3 ko2)
    · skip
      rcases List.mem_cons.mp hk with ek | hk
      · cases ek
        refine zr_callH (rest := []) dL_law_382 vL_180 (wN2_cutLast hX hc hx) (by omega) (by omega) (by omega) rfl rfl (Nat.le_of_ble_eq_true rfl) rfl (fun v2 s1 h_ => ?_) (fun E1 s1 h_ => by obtain ⟨r, e, -⟩ := h_; cases e)
        obtain ⟨r, e, e2, hq⟩ := h_
        cases e
        rw [e2]
        have F0 := (hr _ hq).1
        have hy0 := zFr.get F0 (by unfold zXr; omega) hyo
        obtain ⟨d2, d29, hr2⟩ := (hr _ hq).2 s1 zFr.rf
        have hy := hy0
        have F1 : zFr σ s1 (fun q => x ≤ q ∧ q < x + 274) := F0.w (fun q hq => by unfold zXr at hq; omega)
        have ko := zFr.get F0 (by unfold zXr; omega) ho
        refine zr_istore (ls' := [some (.ref ((zQ X 37))), some (.ref x), some (.ref ((x + 261))), some (.ref ((x + 273))), some (.ref ((x + 274))), some (.int (nI i)), some (.int 2), l7, l8]) dL_law_385 (by decide) rfl ?_
        refine zr_aload_n dL_law_387 rfl ?_
        refine zr_aload_n dL_law_388 rfl ?_
        refine zr_iload dL_law_389 rfl ?_
        refine zr_iconst (v := 1) dL_law_391 (by decide) ?_
        refine zr_iadd dL_law_392 ?_
        refine zr_eqi (x' := nI (i + 1)) (nI_add i 1) ?_
        refine zr_sat dL_law_393 (vp_in_nI (n := i + 1) (by omega) (by omega)) ?_
        rw [nI_clamp (n := i + 1) (by omega)]
        refine zr_callVi (rest := []) dL_law_394 vL_183 hr2 hy (by omega) (by omega) (by omega) rfl rfl (Nat.le_of_ble_eq_true rfl) (by decide) rfl (fun r3 u h3 => ?_)
        obtain ⟨er, F2, hI⟩ := h3
        have F3 : zFr σ u (fun q => x ≤ q ∧ q < x + 274) := zFr.tr F1 F2 (fun q hq => by unfold zMr at hq; omega)
        have ko2 := zFr.get F2 (by unfold zMr; omega) ko
        obtain ⟨F8, h8, e8⟩ := hI.oy
        refine zr_istore (ls' := [some (.ref ((zQ X 37))), some (.ref x), some (.ref ((x + 261))), some (.ref ((x + 273))), some (.ref ((x + 274))), some (.int (nI i)), some (.int 2), some (.int r3), l8]) dL_law_397 (by decide) rfl ?_
        refine zr_aload_n dL_law_399 rfl ?_
        refine zr_pVi (rest := []) dL_law_400 vL_173 (qX10_thrown hX h8) h8 (by omega) (by omega) (by omega) rfl rfl (Nat.le_of_ble_eq_true rfl) (by decide) rfl ?_
        refine zr_eqi (x' := 2) e8 ?_
        refine zr_iload dL_law_403 rfl ?_
        refine zr_icmp_eq (tgt := 410) dL_law_405 (by decide) (fun c_405 => ?_) (fun c_405 => absurd (by decide) c_405)
        refine zr_iload dL_law_410 rfl ?_
        refine zr_if_ne (tgt := 427) dL_law_412 (by decide) (fun c_412 => ?_) (fun c_412 => absurd c_412 (by decide))
        refine zr_goto (tgt := 2861) dL_law_427 (by decide) ?_
        exact zr_less (by omega) (by omega) (kk u _ _ _ _ hI F3 ko2)
      · skip
        cases hk

set_option maxHeartbeats 400000 in
set_option maxRecDepth 100000 in
theorem blk_cancel {X : zX} (hX : X.1.stackTraces = false) {Q : zO → zS → Prop} {σ : zS} {x i bc bs : Nat} {l6 l7 l8 : Option Value} {f : Nat → Int64} (hQ : ∀ i j : Nat, i < 7 → j < 7 → zQ X i = zQ X j → i = j) (hi : i + 4 ≤ zsL X) (hs : zsL X < 2 ^ 31) (hI0 : zIv x (x + 261) 0 σ ∨ ∃ cd, zIv x (x + 261) cd σ) (hN : σ.2 = none) (ho : σ.1 (x + 273) = .inl (3, 1, .inr (.inl f))) (kk : ∀ (s : zS) (cd : Int32) (f2 : Nat → Int64) (m6 m7 : Option Value), zIv x (x + 261) cd s → zFr σ s (fun q => x ≤ q ∧ q < x + 274) → s.1 (x + 273) = .inl (3, 1, .inr (.inl f2)) → zW X mL_law 12 bc bs Q 2861 [some (.ref (zQ X 37)), some (.ref x), some (.ref (x + 261)), some (.ref (x + 273)), some (.ref (x + 274)), some (.int (nI i)), m6, m7, l8] [] s) : zW X mL_law 12 (bc + 1) (bs + 6) Q 430 [some (.ref (zQ X 37)), some (.ref x), some (.ref (x + 261)), some (.ref (x + 273)), some (.ref (x + 274)), some (.int (nI i)), l6, l7, l8] [] σ := by
  have hs2 : zsL X = X.2.2.2.2.2.1 := rfl
  obtain ⟨cd, hI⟩ : ∃ cd, zIv x (x + 261) cd σ := hI0.elim (fun h => ⟨_, h⟩) id
  obtain ⟨fs, hx⟩ := hI.ox
  obtain ⟨Fo, hyo, -⟩ := hI.oy
  obtain ⟨⟨A, S, m, U, n, T, ll, ln, hs1, kf, ld, dt, dc⟩, hK, hM, hL⟩ := hI
  refine zr_aload_n dL_law_430 rfl ?_
  refine zr_aload_n dL_law_431 rfl ?_
  refine zr_iload dL_law_432 rfl ?_
  refine zr_iconst (v := 1) dL_law_434 (by decide) ?_
  refine zr_iadd dL_law_435 ?_
  refine zr_eqi (x' := nI (i + 1)) (nI_add i 1) ?_
  refine zr_sat dL_law_436 (vp_in_nI (n := i + 1) (by omega) (by omega)) ?_
  rw [nI_clamp (n := i + 1) (by omega)]
  refine zr_aload_n dL_law_437 rfl ?_
  have hsm := sem_cancel hX hK hM hL hN hQ (X.2.2.2.2.2.2 (i + 1))
  rcases hsm with ⟨v, d1, mc, ms, Qs, d9, m1, m6, hc, hr⟩ | ⟨E, k, d1, mc, ms, Qs, hk, d9, m1, m6, hc, hr⟩
  · refine zr_callH (rest := []) dL_law_438 vL_184 (wOK_cancel hX hc hx (fun s2 hq => zFr.get (hr s2 hq).1 (by unfold zXr; omega) ho)) (by omega) (by omega) (by omega) rfl rfl (Nat.le_of_ble_eq_true rfl) rfl (fun v2 s1 h_ => ?_) (fun E1 s1 h_ => by obtain ⟨r, e, -⟩ := h_; cases e)
    obtain ⟨r, e, e2, s2, hq, et⟩ := h_
    cases e
    rw [e2]
    have F0 := (hr _ hq).1
    have hy0 := zFr.get F0 (by unfold zXr; omega) hyo
    have Ft : zFr s2 s1 (zOu x) := by rw [et]; exact ⟨rfl, fun a ha => zup_ne _ _ (fun z => ha (by unfold zOu; omega))⟩
    obtain ⟨d2, d29, hr2⟩ := (hr _ hq).2 s1 Ft
    have hy := zFr.get Ft (by unfold zOu; omega) hy0
    have F1 : zFr σ s1 (fun q => x ≤ q ∧ q < x + 274) := zFr.tr (F0.w (fun q hq => by unfold zXr at hq; omega)) (P := fun q => x ≤ q ∧ q < x + 274) (show zFr s2 s1 (fun q => x ≤ q ∧ q < x + 274) from by rw [et]; exact ⟨rfl, fun a ha => zup_ne _ _ (fun z => ha (by omega))⟩) (fun q hq => hq)
    have ko : s1.1 (x + 273) = .inl (3, 1, .inr (.inl (vp_updL f 0 v.toInt64))) := by rw [et]; exact zup_at _ _ _
    refine zr_istore (ls' := [some (.ref ((zQ X 37))), some (.ref x), some (.ref ((x + 261))), some (.ref ((x + 273))), some (.ref ((x + 274))), some (.int (nI i)), some (.int 0), l7, l8]) dL_law_441 (by decide) rfl ?_
    refine zr_aload_n dL_law_443 rfl ?_
    refine zr_aload_n dL_law_444 rfl ?_
    refine zr_iload dL_law_445 rfl ?_
    refine zr_iconst (v := 1) dL_law_447 (by decide) ?_
    refine zr_iadd dL_law_448 ?_
    refine zr_eqi (x' := nI (i + 1)) (nI_add i 1) ?_
    refine zr_sat dL_law_449 (vp_in_nI (n := i + 1) (by omega) (by omega)) ?_
    rw [nI_clamp (n := i + 1) (by omega)]
    refine zr_callVi (rest := []) dL_law_450 vL_186 hr2 hy (by omega) (by omega) (by omega) rfl rfl (Nat.le_of_ble_eq_true rfl) (by decide) rfl (fun r3 u h3 => ?_)
    obtain ⟨er, F2, hI⟩ := h3
    rw [er]
    have F3 : zFr σ u (fun q => x ≤ q ∧ q < x + 274) := zFr.tr F1 F2 (fun q hq => by unfold zMr at hq; omega)
    have ko2 := zFr.get F2 (by unfold zMr; omega) ko
    obtain ⟨F8, h8, e8⟩ := hI.oy
    refine zr_istore (ls' := [some (.ref ((zQ X 37))), some (.ref x), some (.ref ((x + 261))), some (.ref ((x + 273))), some (.ref ((x + 274))), some (.int (nI i)), some (.int 0), some (.int v), l8]) dL_law_453 (by decide) rfl ?_
    refine zr_aload_n dL_law_455 rfl ?_
    refine zr_pVi (rest := []) dL_law_456 vL_173 (qX10_thrown hX h8) h8 (by omega) (by omega) (by omega) rfl rfl (Nat.le_of_ble_eq_true rfl) (by decide) rfl ?_
    refine zr_eqi (x' := 0) e8 ?_
    refine zr_iload dL_law_459 rfl ?_
    refine zr_icmp_eq (tgt := 466) dL_law_461 (by decide) (fun c_461 => ?_) (fun c_461 => absurd (by decide) c_461)
    refine zr_iload dL_law_466 rfl ?_
    refine zr_if_ne (tgt := 483) dL_law_468 (by decide) (fun c_468 => absurd (by decide) c_468) (fun c_468 => ?_)
    refine zr_aload_n dL_law_471 rfl ?_
    refine zr_iconst (v := 0) dL_law_472 (by decide) ?_
    refine zr_laload dL_law_473 ko2 (vp_in_nI (n := 0) (by omega) (by omega)) ?_
    rw [show (0 : Int32).toNatClampNeg = 0 from by decide]
    refine zr_eql (x' := v.toInt64) (by unfold vp_updL; rw [if_pos rfl]) ?_
    refine zr_iload dL_law_474 rfl ?_
    refine zr_i2l dL_law_476 ?_
    refine zr_lcmp dL_law_477 ?_
    refine zr_eqi (x' := 0) (lcmp_self _) ?_
    refine zr_if_eq (tgt := 483) dL_law_478 (by decide) (fun c_478 => ?_) (fun c_478 => absurd (by decide) c_478)
    refine zr_goto (tgt := 2861) dL_law_483 (by decide) ?_
    exact zr_less (by omega) (by omega) (kk u _ _ _ _ hI F3 ko2)
  · skip
    rcases List.mem_cons.mp hk with ek | hk
    · cases ek
      refine zr_callH (rest := []) dL_law_438 vL_184 (wN1_cancel hX hc hx) (by omega) (by omega) (by omega) rfl rfl (Nat.le_of_ble_eq_true rfl) rfl (fun v2 s1 h_ => ?_) (fun E1 s1 h_ => by obtain ⟨r, e, -⟩ := h_; cases e)
      obtain ⟨r, e, e2, hq⟩ := h_
      cases e
      rw [e2]
      have F0 := (hr _ hq).1
      have hy0 := zFr.get F0 (by unfold zXr; omega) hyo
      obtain ⟨d2, d29, hr2⟩ := (hr _ hq).2 s1 zFr.rf
      have hy := hy0
      have F1 : zFr σ s1 (fun q => x ≤ q ∧ q < x + 274) := F0.w (fun q hq => by unfold zXr at hq; omega)
      have ko := zFr.get F0 (by unfold zXr; omega) ho
      refine zr_istore (ls' := [some (.ref ((zQ X 37))), some (.ref x), some (.ref ((x + 261))), some (.ref ((x + 273))), some (.ref ((x + 274))), some (.int (nI i)), some (.int 1), l7, l8]) dL_law_441 (by decide) rfl ?_
      refine zr_aload_n dL_law_443 rfl ?_
      refine zr_aload_n dL_law_444 rfl ?_
      refine zr_iload dL_law_445 rfl ?_
      refine zr_iconst (v := 1) dL_law_447 (by decide) ?_
      refine zr_iadd dL_law_448 ?_
      refine zr_eqi (x' := nI (i + 1)) (nI_add i 1) ?_
      refine zr_sat dL_law_449 (vp_in_nI (n := i + 1) (by omega) (by omega)) ?_
      rw [nI_clamp (n := i + 1) (by omega)]
      refine zr_callVi (rest := []) dL_law_450 vL_186 hr2 hy (by omega) (by omega) (by omega) rfl rfl (Nat.le_of_ble_eq_true rfl) (by decide) rfl (fun r3 u h3 => ?_)
      obtain ⟨er, F2, hI⟩ := h3
      have F3 : zFr σ u (fun q => x ≤ q ∧ q < x + 274) := zFr.tr F1 F2 (fun q hq => by unfold zMr at hq; omega)
      have ko2 := zFr.get F2 (by unfold zMr; omega) ko
      obtain ⟨F8, h8, e8⟩ := hI.oy
      refine zr_istore (ls' := [some (.ref ((zQ X 37))), some (.ref x), some (.ref ((x + 261))), some (.ref ((x + 273))), some (.ref ((x + 274))), some (.int (nI i)), some (.int 1), some (.int r3), l8]) dL_law_453 (by decide) rfl ?_
      refine zr_aload_n dL_law_455 rfl ?_
      refine zr_pVi (rest := []) dL_law_456 vL_173 (qX10_thrown hX h8) h8 (by omega) (by omega) (by omega) rfl rfl (Nat.le_of_ble_eq_true rfl) (by decide) rfl ?_
      refine zr_eqi (x' := 1) e8 ?_
      refine zr_iload dL_law_459 rfl ?_
      refine zr_icmp_eq (tgt := 466) dL_law_461 (by decide) (fun c_461 => ?_) (fun c_461 => absurd (by decide) c_461)
      refine zr_iload dL_law_466 rfl ?_
      refine zr_if_ne (tgt := 483) dL_law_468 (by decide) (fun c_468 => ?_) (fun c_468 => absurd c_468 (by decide))
      refine zr_goto (tgt := 2861) dL_law_483 (by decide) ?_
      exact zr_less (by omega) (by omega) (kk u _ _ _ _ hI F3 ko2)
    · skip
      rcases List.mem_cons.mp hk with ek | hk
      · cases ek
        refine zr_callH (rest := []) dL_law_438 vL_184 (wN2_cancel hX hc hx) (by omega) (by omega) (by omega) rfl rfl (Nat.le_of_ble_eq_true rfl) rfl (fun v2 s1 h_ => ?_) (fun E1 s1 h_ => by obtain ⟨r, e, -⟩ := h_; cases e)
        obtain ⟨r, e, e2, hq⟩ := h_
        cases e
        rw [e2]
        have F0 := (hr _ hq).1
        have hy0 := zFr.get F0 (by unfold zXr; omega) hyo
        obtain ⟨d2, d29, hr2⟩ := (hr _ hq).2 s1 zFr.rf
        have hy := hy0
        have F1 : zFr σ s1 (fun q => x ≤ q ∧ q < x + 274) := F0.w (fun q hq => by unfold zXr at hq; omega)
        have ko := zFr.get F0 (by unfold zXr; omega) ho
        refine zr_istore (ls' := [some (.ref ((zQ X 37))), some (.ref x), some (.ref ((x + 261))), some (.ref ((x + 273))), some (.ref ((x + 274))), some (.int (nI i)), some (.int 2), l7, l8]) dL_law_441 (by decide) rfl ?_
        refine zr_aload_n dL_law_443 rfl ?_
        refine zr_aload_n dL_law_444 rfl ?_
        refine zr_iload dL_law_445 rfl ?_
        refine zr_iconst (v := 1) dL_law_447 (by decide) ?_
        refine zr_iadd dL_law_448 ?_
        refine zr_eqi (x' := nI (i + 1)) (nI_add i 1) ?_
        refine zr_sat dL_law_449 (vp_in_nI (n := i + 1) (by omega) (by omega)) ?_
        rw [nI_clamp (n := i + 1) (by omega)]
        refine zr_callVi (rest := []) dL_law_450 vL_186 hr2 hy (by omega) (by omega) (by omega) rfl rfl (Nat.le_of_ble_eq_true rfl) (by decide) rfl (fun r3 u h3 => ?_)
        obtain ⟨er, F2, hI⟩ := h3
        have F3 : zFr σ u (fun q => x ≤ q ∧ q < x + 274) := zFr.tr F1 F2 (fun q hq => by unfold zMr at hq; omega)
        have ko2 := zFr.get F2 (by unfold zMr; omega) ko
        obtain ⟨F8, h8, e8⟩ := hI.oy
        refine zr_istore (ls' := [some (.ref ((zQ X 37))), some (.ref x), some (.ref ((x + 261))), some (.ref ((x + 273))), some (.ref ((x + 274))), some (.int (nI i)), some (.int 2), some (.int r3), l8]) dL_law_453 (by decide) rfl ?_
        refine zr_aload_n dL_law_455 rfl ?_
        refine zr_pVi (rest := []) dL_law_456 vL_173 (qX10_thrown hX h8) h8 (by omega) (by omega) (by omega) rfl rfl (Nat.le_of_ble_eq_true rfl) (by decide) rfl ?_
        refine zr_eqi (x' := 2) e8 ?_
        refine zr_iload dL_law_459 rfl ?_
        refine zr_icmp_eq (tgt := 466) dL_law_461 (by decide) (fun c_461 => ?_) (fun c_461 => absurd (by decide) c_461)
        refine zr_iload dL_law_466 rfl ?_
        refine zr_if_ne (tgt := 483) dL_law_468 (by decide) (fun c_468 => ?_) (fun c_468 => absurd c_468 (by decide))
        refine zr_goto (tgt := 2861) dL_law_483 (by decide) ?_
        exact zr_less (by omega) (by omega) (kk u _ _ _ _ hI F3 ko2)
      · skip
        cases hk

set_option maxHeartbeats 400000 in
set_option maxRecDepth 100000 in
theorem blk_relax {X : zX} (hX : X.1.stackTraces = false) {Q : zO → zS → Prop} {σ : zS} {x i bc bs : Nat} {l6 l7 l8 : Option Value} {f : Nat → Int64} (hQ : ∀ i j : Nat, i < 7 → j < 7 → zQ X i = zQ X j → i = j) (hi : i + 4 ≤ zsL X) (hs : zsL X < 2 ^ 31) (hI0 : zIv x (x + 261) 0 σ ∨ ∃ cd, zIv x (x + 261) cd σ) (hN : σ.2 = none) (ho : σ.1 (x + 273) = .inl (3, 1, .inr (.inl f))) (kk : ∀ (s : zS) (cd : Int32) (f2 : Nat → Int64) (m6 m7 : Option Value), zIv x (x + 261) cd s → zFr σ s (fun q => x ≤ q ∧ q < x + 274) → s.1 (x + 273) = .inl (3, 1, .inr (.inl f2)) → zW X mL_law 12 bc bs Q 2861 [some (.ref (zQ X 37)), some (.ref x), some (.ref (x + 261)), some (.ref (x + 273)), some (.ref (x + 274)), some (.int (nI i)), m6, m7, l8] [] s) : zW X mL_law 12 (bc + 1) (bs + 6) Q 486 [some (.ref (zQ X 37)), some (.ref x), some (.ref (x + 261)), some (.ref (x + 273)), some (.ref (x + 274)), some (.int (nI i)), l6, l7, l8] [] σ := by
  have hs2 : zsL X = X.2.2.2.2.2.1 := rfl
  obtain ⟨cd, hI⟩ : ∃ cd, zIv x (x + 261) cd σ := hI0.elim (fun h => ⟨_, h⟩) id
  obtain ⟨fs, hx⟩ := hI.ox
  obtain ⟨Fo, hyo, -⟩ := hI.oy
  obtain ⟨⟨A, S, m, U, n, T, ll, ln, hs1, kf, ld, dt, dc⟩, hK, hM, hL⟩ := hI
  refine zr_aload_n dL_law_486 rfl ?_
  refine zr_aload_n dL_law_487 rfl ?_
  refine zr_iload dL_law_488 rfl ?_
  refine zr_iconst (v := 1) dL_law_490 (by decide) ?_
  refine zr_iadd dL_law_491 ?_
  refine zr_eqi (x' := nI (i + 1)) (nI_add i 1) ?_
  refine zr_sat dL_law_492 (vp_in_nI (n := i + 1) (by omega) (by omega)) ?_
  rw [nI_clamp (n := i + 1) (by omega)]
  refine zr_aload_n dL_law_493 rfl ?_
  have hsm := sem_relax hX hK hM hL hN hQ (X.2.2.2.2.2.2 (i + 1))
  rcases hsm with ⟨v, d1, mc, ms, Qs, d9, m1, m6, hc, hr⟩ | ⟨E, k, d1, mc, ms, Qs, hk, d9, m1, m6, hc, hr⟩
  · refine zr_callH (rest := []) dL_law_494 vL_187 (wOK_relax hX hc hx (fun s2 hq => zFr.get (hr s2 hq).1 (by unfold zXr; omega) ho)) (by omega) (by omega) (by omega) rfl rfl (Nat.le_of_ble_eq_true rfl) rfl (fun v2 s1 h_ => ?_) (fun E1 s1 h_ => by obtain ⟨r, e, -⟩ := h_; cases e)
    obtain ⟨r, e, e2, s2, hq, et⟩ := h_
    cases e
    rw [e2]
    have F0 := (hr _ hq).1
    have hy0 := zFr.get F0 (by unfold zXr; omega) hyo
    have Ft : zFr s2 s1 (zOu x) := by rw [et]; exact ⟨rfl, fun a ha => zup_ne _ _ (fun z => ha (by unfold zOu; omega))⟩
    obtain ⟨d2, d29, hr2⟩ := (hr _ hq).2 s1 Ft
    have hy := zFr.get Ft (by unfold zOu; omega) hy0
    have F1 : zFr σ s1 (fun q => x ≤ q ∧ q < x + 274) := zFr.tr (F0.w (fun q hq => by unfold zXr at hq; omega)) (P := fun q => x ≤ q ∧ q < x + 274) (show zFr s2 s1 (fun q => x ≤ q ∧ q < x + 274) from by rw [et]; exact ⟨rfl, fun a ha => zup_ne _ _ (fun z => ha (by omega))⟩) (fun q hq => hq)
    have ko : s1.1 (x + 273) = .inl (3, 1, .inr (.inl (vp_updL f 0 v.toInt64))) := by rw [et]; exact zup_at _ _ _
    refine zr_istore (ls' := [some (.ref ((zQ X 37))), some (.ref x), some (.ref ((x + 261))), some (.ref ((x + 273))), some (.ref ((x + 274))), some (.int (nI i)), some (.int 0), l7, l8]) dL_law_497 (by decide) rfl ?_
    refine zr_aload_n dL_law_499 rfl ?_
    refine zr_aload_n dL_law_500 rfl ?_
    refine zr_iload dL_law_501 rfl ?_
    refine zr_iconst (v := 1) dL_law_503 (by decide) ?_
    refine zr_iadd dL_law_504 ?_
    refine zr_eqi (x' := nI (i + 1)) (nI_add i 1) ?_
    refine zr_sat dL_law_505 (vp_in_nI (n := i + 1) (by omega) (by omega)) ?_
    rw [nI_clamp (n := i + 1) (by omega)]
    refine zr_callVi (rest := []) dL_law_506 vL_189 hr2 hy (by omega) (by omega) (by omega) rfl rfl (Nat.le_of_ble_eq_true rfl) (by decide) rfl (fun r3 u h3 => ?_)
    obtain ⟨er, F2, hI⟩ := h3
    rw [er]
    have F3 : zFr σ u (fun q => x ≤ q ∧ q < x + 274) := zFr.tr F1 F2 (fun q hq => by unfold zMr at hq; omega)
    have ko2 := zFr.get F2 (by unfold zMr; omega) ko
    obtain ⟨F8, h8, e8⟩ := hI.oy
    refine zr_istore (ls' := [some (.ref ((zQ X 37))), some (.ref x), some (.ref ((x + 261))), some (.ref ((x + 273))), some (.ref ((x + 274))), some (.int (nI i)), some (.int 0), some (.int v), l8]) dL_law_509 (by decide) rfl ?_
    refine zr_aload_n dL_law_511 rfl ?_
    refine zr_pVi (rest := []) dL_law_512 vL_173 (qX10_thrown hX h8) h8 (by omega) (by omega) (by omega) rfl rfl (Nat.le_of_ble_eq_true rfl) (by decide) rfl ?_
    refine zr_eqi (x' := 0) e8 ?_
    refine zr_iload dL_law_515 rfl ?_
    refine zr_icmp_eq (tgt := 522) dL_law_517 (by decide) (fun c_517 => ?_) (fun c_517 => absurd (by decide) c_517)
    refine zr_iload dL_law_522 rfl ?_
    refine zr_if_ne (tgt := 539) dL_law_524 (by decide) (fun c_524 => absurd (by decide) c_524) (fun c_524 => ?_)
    refine zr_aload_n dL_law_527 rfl ?_
    refine zr_iconst (v := 0) dL_law_528 (by decide) ?_
    refine zr_laload dL_law_529 ko2 (vp_in_nI (n := 0) (by omega) (by omega)) ?_
    rw [show (0 : Int32).toNatClampNeg = 0 from by decide]
    refine zr_eql (x' := v.toInt64) (by unfold vp_updL; rw [if_pos rfl]) ?_
    refine zr_iload dL_law_530 rfl ?_
    refine zr_i2l dL_law_532 ?_
    refine zr_lcmp dL_law_533 ?_
    refine zr_eqi (x' := 0) (lcmp_self _) ?_
    refine zr_if_eq (tgt := 539) dL_law_534 (by decide) (fun c_534 => ?_) (fun c_534 => absurd (by decide) c_534)
    refine zr_goto (tgt := 2861) dL_law_539 (by decide) ?_
    exact zr_less (by omega) (by omega) (kk u _ _ _ _ hI F3 ko2)
  · skip
    rcases List.mem_cons.mp hk with ek | hk
    · cases ek
      refine zr_callH (rest := []) dL_law_494 vL_187 (wN1_relax hX hc hx) (by omega) (by omega) (by omega) rfl rfl (Nat.le_of_ble_eq_true rfl) rfl (fun v2 s1 h_ => ?_) (fun E1 s1 h_ => by obtain ⟨r, e, -⟩ := h_; cases e)
      obtain ⟨r, e, e2, hq⟩ := h_
      cases e
      rw [e2]
      have F0 := (hr _ hq).1
      have hy0 := zFr.get F0 (by unfold zXr; omega) hyo
      obtain ⟨d2, d29, hr2⟩ := (hr _ hq).2 s1 zFr.rf
      have hy := hy0
      have F1 : zFr σ s1 (fun q => x ≤ q ∧ q < x + 274) := F0.w (fun q hq => by unfold zXr at hq; omega)
      have ko := zFr.get F0 (by unfold zXr; omega) ho
      refine zr_istore (ls' := [some (.ref ((zQ X 37))), some (.ref x), some (.ref ((x + 261))), some (.ref ((x + 273))), some (.ref ((x + 274))), some (.int (nI i)), some (.int 1), l7, l8]) dL_law_497 (by decide) rfl ?_
      refine zr_aload_n dL_law_499 rfl ?_
      refine zr_aload_n dL_law_500 rfl ?_
      refine zr_iload dL_law_501 rfl ?_
      refine zr_iconst (v := 1) dL_law_503 (by decide) ?_
      refine zr_iadd dL_law_504 ?_
      refine zr_eqi (x' := nI (i + 1)) (nI_add i 1) ?_
      refine zr_sat dL_law_505 (vp_in_nI (n := i + 1) (by omega) (by omega)) ?_
      rw [nI_clamp (n := i + 1) (by omega)]
      refine zr_callVi (rest := []) dL_law_506 vL_189 hr2 hy (by omega) (by omega) (by omega) rfl rfl (Nat.le_of_ble_eq_true rfl) (by decide) rfl (fun r3 u h3 => ?_)
      obtain ⟨er, F2, hI⟩ := h3
      have F3 : zFr σ u (fun q => x ≤ q ∧ q < x + 274) := zFr.tr F1 F2 (fun q hq => by unfold zMr at hq; omega)
      have ko2 := zFr.get F2 (by unfold zMr; omega) ko
      obtain ⟨F8, h8, e8⟩ := hI.oy
      refine zr_istore (ls' := [some (.ref ((zQ X 37))), some (.ref x), some (.ref ((x + 261))), some (.ref ((x + 273))), some (.ref ((x + 274))), some (.int (nI i)), some (.int 1), some (.int r3), l8]) dL_law_509 (by decide) rfl ?_
      refine zr_aload_n dL_law_511 rfl ?_
      refine zr_pVi (rest := []) dL_law_512 vL_173 (qX10_thrown hX h8) h8 (by omega) (by omega) (by omega) rfl rfl (Nat.le_of_ble_eq_true rfl) (by decide) rfl ?_
      refine zr_eqi (x' := 1) e8 ?_
      refine zr_iload dL_law_515 rfl ?_
      refine zr_icmp_eq (tgt := 522) dL_law_517 (by decide) (fun c_517 => ?_) (fun c_517 => absurd (by decide) c_517)
      refine zr_iload dL_law_522 rfl ?_
      refine zr_if_ne (tgt := 539) dL_law_524 (by decide) (fun c_524 => ?_) (fun c_524 => absurd c_524 (by decide))
      refine zr_goto (tgt := 2861) dL_law_539 (by decide) ?_
      exact zr_less (by omega) (by omega) (kk u _ _ _ _ hI F3 ko2)
    · skip
      rcases List.mem_cons.mp hk with ek | hk
      · cases ek
        refine zr_callH (rest := []) dL_law_494 vL_187 (wN2_relax hX hc hx) (by omega) (by omega) (by omega) rfl rfl (Nat.le_of_ble_eq_true rfl) rfl (fun v2 s1 h_ => ?_) (fun E1 s1 h_ => by obtain ⟨r, e, -⟩ := h_; cases e)
        obtain ⟨r, e, e2, hq⟩ := h_
        cases e
        rw [e2]
        have F0 := (hr _ hq).1
        have hy0 := zFr.get F0 (by unfold zXr; omega) hyo
        obtain ⟨d2, d29, hr2⟩ := (hr _ hq).2 s1 zFr.rf
        have hy := hy0
        have F1 : zFr σ s1 (fun q => x ≤ q ∧ q < x + 274) := F0.w (fun q hq => by unfold zXr at hq; omega)
        have ko := zFr.get F0 (by unfold zXr; omega) ho
        refine zr_istore (ls' := [some (.ref ((zQ X 37))), some (.ref x), some (.ref ((x + 261))), some (.ref ((x + 273))), some (.ref ((x + 274))), some (.int (nI i)), some (.int 2), l7, l8]) dL_law_497 (by decide) rfl ?_
        refine zr_aload_n dL_law_499 rfl ?_
        refine zr_aload_n dL_law_500 rfl ?_
        refine zr_iload dL_law_501 rfl ?_
        refine zr_iconst (v := 1) dL_law_503 (by decide) ?_
        refine zr_iadd dL_law_504 ?_
        refine zr_eqi (x' := nI (i + 1)) (nI_add i 1) ?_
        refine zr_sat dL_law_505 (vp_in_nI (n := i + 1) (by omega) (by omega)) ?_
        rw [nI_clamp (n := i + 1) (by omega)]
        refine zr_callVi (rest := []) dL_law_506 vL_189 hr2 hy (by omega) (by omega) (by omega) rfl rfl (Nat.le_of_ble_eq_true rfl) (by decide) rfl (fun r3 u h3 => ?_)
        obtain ⟨er, F2, hI⟩ := h3
        have F3 : zFr σ u (fun q => x ≤ q ∧ q < x + 274) := zFr.tr F1 F2 (fun q hq => by unfold zMr at hq; omega)
        have ko2 := zFr.get F2 (by unfold zMr; omega) ko
        obtain ⟨F8, h8, e8⟩ := hI.oy
        refine zr_istore (ls' := [some (.ref ((zQ X 37))), some (.ref x), some (.ref ((x + 261))), some (.ref ((x + 273))), some (.ref ((x + 274))), some (.int (nI i)), some (.int 2), some (.int r3), l8]) dL_law_509 (by decide) rfl ?_
        refine zr_aload_n dL_law_511 rfl ?_
        refine zr_pVi (rest := []) dL_law_512 vL_173 (qX10_thrown hX h8) h8 (by omega) (by omega) (by omega) rfl rfl (Nat.le_of_ble_eq_true rfl) (by decide) rfl ?_
        refine zr_eqi (x' := 2) e8 ?_
        refine zr_iload dL_law_515 rfl ?_
        refine zr_icmp_eq (tgt := 522) dL_law_517 (by decide) (fun c_517 => ?_) (fun c_517 => absurd (by decide) c_517)
        refine zr_iload dL_law_522 rfl ?_
        refine zr_if_ne (tgt := 539) dL_law_524 (by decide) (fun c_524 => ?_) (fun c_524 => absurd c_524 (by decide))
        refine zr_goto (tgt := 2861) dL_law_539 (by decide) ?_
        exact zr_less (by omega) (by omega) (kk u _ _ _ _ hI F3 ko2)
      · skip
        cases hk

set_option maxHeartbeats 400000 in
set_option maxRecDepth 100000 in
theorem blk_wordLength {X : zX} (hX : X.1.stackTraces = false) {Q : zO → zS → Prop} {σ : zS} {x i bc bs : Nat} {l6 l7 l8 : Option Value} {f : Nat → Int64} (hQ : ∀ i j : Nat, i < 7 → j < 7 → zQ X i = zQ X j → i = j) (hi : i + 4 ≤ zsL X) (hs : zsL X < 2 ^ 31) (hI0 : zIv x (x + 261) 0 σ ∨ ∃ cd, zIv x (x + 261) cd σ) (hN : σ.2 = none) (ho : σ.1 (x + 273) = .inl (3, 1, .inr (.inl f))) (kk : ∀ (s : zS) (cd : Int32) (f2 : Nat → Int64) (m6 m7 : Option Value), zIv x (x + 261) cd s → zFr σ s (fun q => x ≤ q ∧ q < x + 274) → s.1 (x + 273) = .inl (3, 1, .inr (.inl f2)) → zW X mL_law 12 bc bs Q 2861 [some (.ref (zQ X 37)), some (.ref x), some (.ref (x + 261)), some (.ref (x + 273)), some (.ref (x + 274)), some (.int (nI i)), m6, m7, l8] [] s) : zW X mL_law 12 (bc + 1) (bs + 6) Q 555 [some (.ref (zQ X 37)), some (.ref x), some (.ref (x + 261)), some (.ref (x + 273)), some (.ref (x + 274)), some (.int (nI i)), l6, l7, l8] [] σ := by
  have hs2 : zsL X = X.2.2.2.2.2.1 := rfl
  obtain ⟨cd, hI⟩ : ∃ cd, zIv x (x + 261) cd σ := hI0.elim (fun h => ⟨_, h⟩) id
  obtain ⟨fs, hx⟩ := hI.ox
  obtain ⟨Fo, hyo, -⟩ := hI.oy
  obtain ⟨⟨A, S, m, U, n, T, ll, ln, hs1, kf, ld, dt, dc⟩, hK, hM, hL⟩ := hI
  refine zr_aload_n dL_law_555 rfl ?_
  refine zr_aload_n dL_law_556 rfl ?_
  refine zr_iload dL_law_557 rfl ?_
  refine zr_iconst (v := 1) dL_law_559 (by decide) ?_
  refine zr_iadd dL_law_560 ?_
  refine zr_eqi (x' := nI (i + 1)) (nI_add i 1) ?_
  refine zr_sat dL_law_561 (vp_in_nI (n := i + 1) (by omega) (by omega)) ?_
  rw [nI_clamp (n := i + 1) (by omega)]
  refine zr_aload_n dL_law_562 rfl ?_
  have hsm := sem_wordLength hX hK hM hL hN hQ (X.2.2.2.2.2.2 (i + 1))
  rcases hsm with ⟨v, d1, mc, ms, Qs, d9, m1, m6, hc, hr⟩ | ⟨E, k, d1, mc, ms, Qs, hk, d9, m1, m6, hc, hr⟩
  · refine zr_callH (rest := []) dL_law_563 vL_194 (wOK_wordLength hX hc hx (fun s2 hq => zFr.get (hr s2 hq).1 (by unfold zXr; omega) ho)) (by omega) (by omega) (by omega) rfl rfl (Nat.le_of_ble_eq_true rfl) rfl (fun v2 s1 h_ => ?_) (fun E1 s1 h_ => by obtain ⟨r, e, -⟩ := h_; cases e)
    obtain ⟨r, e, e2, s2, hq, et⟩ := h_
    cases e
    rw [e2]
    have F0 := (hr _ hq).1
    have hy0 := zFr.get F0 (by unfold zXr; omega) hyo
    have Ft : zFr s2 s1 (zOu x) := by rw [et]; exact ⟨rfl, fun a ha => zup_ne _ _ (fun z => ha (by unfold zOu; omega))⟩
    obtain ⟨d2, d29, hr2⟩ := (hr _ hq).2 s1 Ft
    have hy := zFr.get Ft (by unfold zOu; omega) hy0
    have F1 : zFr σ s1 (fun q => x ≤ q ∧ q < x + 274) := zFr.tr (F0.w (fun q hq => by unfold zXr at hq; omega)) (P := fun q => x ≤ q ∧ q < x + 274) (show zFr s2 s1 (fun q => x ≤ q ∧ q < x + 274) from by rw [et]; exact ⟨rfl, fun a ha => zup_ne _ _ (fun z => ha (by omega))⟩) (fun q hq => hq)
    have ko : s1.1 (x + 273) = .inl (3, 1, .inr (.inl (vp_updL f 0 v.toInt64))) := by rw [et]; exact zup_at _ _ _
    refine zr_istore (ls' := [some (.ref ((zQ X 37))), some (.ref x), some (.ref ((x + 261))), some (.ref ((x + 273))), some (.ref ((x + 274))), some (.int (nI i)), some (.int 0), l7, l8]) dL_law_566 (by decide) rfl ?_
    refine zr_aload_n dL_law_568 rfl ?_
    refine zr_aload_n dL_law_569 rfl ?_
    refine zr_iload dL_law_570 rfl ?_
    refine zr_iconst (v := 1) dL_law_572 (by decide) ?_
    refine zr_iadd dL_law_573 ?_
    refine zr_eqi (x' := nI (i + 1)) (nI_add i 1) ?_
    refine zr_sat dL_law_574 (vp_in_nI (n := i + 1) (by omega) (by omega)) ?_
    rw [nI_clamp (n := i + 1) (by omega)]
    refine zr_callVi (rest := []) dL_law_575 vL_196 hr2 hy (by omega) (by omega) (by omega) rfl rfl (Nat.le_of_ble_eq_true rfl) (by decide) rfl (fun r3 u h3 => ?_)
    obtain ⟨er, F2, hI⟩ := h3
    rw [er]
    have F3 : zFr σ u (fun q => x ≤ q ∧ q < x + 274) := zFr.tr F1 F2 (fun q hq => by unfold zMr at hq; omega)
    have ko2 := zFr.get F2 (by unfold zMr; omega) ko
    obtain ⟨F8, h8, e8⟩ := hI.oy
    refine zr_istore (ls' := [some (.ref ((zQ X 37))), some (.ref x), some (.ref ((x + 261))), some (.ref ((x + 273))), some (.ref ((x + 274))), some (.int (nI i)), some (.int 0), some (.int v), l8]) dL_law_578 (by decide) rfl ?_
    refine zr_aload_n dL_law_580 rfl ?_
    refine zr_pVi (rest := []) dL_law_581 vL_173 (qX10_thrown hX h8) h8 (by omega) (by omega) (by omega) rfl rfl (Nat.le_of_ble_eq_true rfl) (by decide) rfl ?_
    refine zr_eqi (x' := 0) e8 ?_
    refine zr_iload dL_law_584 rfl ?_
    refine zr_icmp_eq (tgt := 591) dL_law_586 (by decide) (fun c_586 => ?_) (fun c_586 => absurd (by decide) c_586)
    refine zr_iload dL_law_591 rfl ?_
    refine zr_if_ne (tgt := 608) dL_law_593 (by decide) (fun c_593 => absurd (by decide) c_593) (fun c_593 => ?_)
    refine zr_aload_n dL_law_596 rfl ?_
    refine zr_iconst (v := 0) dL_law_597 (by decide) ?_
    refine zr_laload dL_law_598 ko2 (vp_in_nI (n := 0) (by omega) (by omega)) ?_
    rw [show (0 : Int32).toNatClampNeg = 0 from by decide]
    refine zr_eql (x' := v.toInt64) (by unfold vp_updL; rw [if_pos rfl]) ?_
    refine zr_iload dL_law_599 rfl ?_
    refine zr_i2l dL_law_601 ?_
    refine zr_lcmp dL_law_602 ?_
    refine zr_eqi (x' := 0) (lcmp_self _) ?_
    refine zr_if_eq (tgt := 608) dL_law_603 (by decide) (fun c_603 => ?_) (fun c_603 => absurd (by decide) c_603)
    refine zr_goto (tgt := 2861) dL_law_608 (by decide) ?_
    exact zr_less (by omega) (by omega) (kk u _ _ _ _ hI F3 ko2)
  · skip
    rcases List.mem_cons.mp hk with ek | hk
    · cases ek
      refine zr_callH (rest := []) dL_law_563 vL_194 (wN1_wordLength hX hc hx) (by omega) (by omega) (by omega) rfl rfl (Nat.le_of_ble_eq_true rfl) rfl (fun v2 s1 h_ => ?_) (fun E1 s1 h_ => by obtain ⟨r, e, -⟩ := h_; cases e)
      obtain ⟨r, e, e2, hq⟩ := h_
      cases e
      rw [e2]
      have F0 := (hr _ hq).1
      have hy0 := zFr.get F0 (by unfold zXr; omega) hyo
      obtain ⟨d2, d29, hr2⟩ := (hr _ hq).2 s1 zFr.rf
      have hy := hy0
      have F1 : zFr σ s1 (fun q => x ≤ q ∧ q < x + 274) := F0.w (fun q hq => by unfold zXr at hq; omega)
      have ko := zFr.get F0 (by unfold zXr; omega) ho
      refine zr_istore (ls' := [some (.ref ((zQ X 37))), some (.ref x), some (.ref ((x + 261))), some (.ref ((x + 273))), some (.ref ((x + 274))), some (.int (nI i)), some (.int 1), l7, l8]) dL_law_566 (by decide) rfl ?_
      refine zr_aload_n dL_law_568 rfl ?_
      refine zr_aload_n dL_law_569 rfl ?_
      refine zr_iload dL_law_570 rfl ?_
      refine zr_iconst (v := 1) dL_law_572 (by decide) ?_
      refine zr_iadd dL_law_573 ?_
      refine zr_eqi (x' := nI (i + 1)) (nI_add i 1) ?_
      refine zr_sat dL_law_574 (vp_in_nI (n := i + 1) (by omega) (by omega)) ?_
      rw [nI_clamp (n := i + 1) (by omega)]
      refine zr_callVi (rest := []) dL_law_575 vL_196 hr2 hy (by omega) (by omega) (by omega) rfl rfl (Nat.le_of_ble_eq_true rfl) (by decide) rfl (fun r3 u h3 => ?_)
      obtain ⟨er, F2, hI⟩ := h3
      have F3 : zFr σ u (fun q => x ≤ q ∧ q < x + 274) := zFr.tr F1 F2 (fun q hq => by unfold zMr at hq; omega)
      have ko2 := zFr.get F2 (by unfold zMr; omega) ko
      obtain ⟨F8, h8, e8⟩ := hI.oy
      refine zr_istore (ls' := [some (.ref ((zQ X 37))), some (.ref x), some (.ref ((x + 261))), some (.ref ((x + 273))), some (.ref ((x + 274))), some (.int (nI i)), some (.int 1), some (.int r3), l8]) dL_law_578 (by decide) rfl ?_
      refine zr_aload_n dL_law_580 rfl ?_
      refine zr_pVi (rest := []) dL_law_581 vL_173 (qX10_thrown hX h8) h8 (by omega) (by omega) (by omega) rfl rfl (Nat.le_of_ble_eq_true rfl) (by decide) rfl ?_
      refine zr_eqi (x' := 1) e8 ?_
      refine zr_iload dL_law_584 rfl ?_
      refine zr_icmp_eq (tgt := 591) dL_law_586 (by decide) (fun c_586 => ?_) (fun c_586 => absurd (by decide) c_586)
      refine zr_iload dL_law_591 rfl ?_
      refine zr_if_ne (tgt := 608) dL_law_593 (by decide) (fun c_593 => ?_) (fun c_593 => absurd c_593 (by decide))
      refine zr_goto (tgt := 2861) dL_law_608 (by decide) ?_
      exact zr_less (by omega) (by omega) (kk u _ _ _ _ hI F3 ko2)
    · skip
      cases hk

set_option maxHeartbeats 400000 in
set_option maxRecDepth 100000 in
theorem blk_letterAt {X : zX} (hX : X.1.stackTraces = false) {Q : zO → zS → Prop} {σ : zS} {x i bc bs : Nat} {l6 l7 l8 : Option Value} {f : Nat → Int64} (hQ : ∀ i j : Nat, i < 7 → j < 7 → zQ X i = zQ X j → i = j) (hi : i + 4 ≤ zsL X) (hs : zsL X < 2 ^ 31) (hI0 : zIv x (x + 261) 0 σ ∨ ∃ cd, zIv x (x + 261) cd σ) (hN : σ.2 = none) (ho : σ.1 (x + 273) = .inl (3, 1, .inr (.inl f))) (kk : ∀ (s : zS) (cd : Int32) (f2 : Nat → Int64) (m6 m7 : Option Value), zIv x (x + 261) cd s → zFr σ s (fun q => x ≤ q ∧ q < x + 274) → s.1 (x + 273) = .inl (3, 1, .inr (.inl f2)) → zW X mL_law 12 bc bs Q 2861 [some (.ref (zQ X 37)), some (.ref x), some (.ref (x + 261)), some (.ref (x + 273)), some (.ref (x + 274)), some (.int (nI i)), m6, m7, l8] [] s) : zW X mL_law 12 (bc + 1) (bs + 6) Q 611 [some (.ref (zQ X 37)), some (.ref x), some (.ref (x + 261)), some (.ref (x + 273)), some (.ref (x + 274)), some (.int (nI i)), l6, l7, l8] [] σ := by
  have hs2 : zsL X = X.2.2.2.2.2.1 := rfl
  obtain ⟨cd, hI⟩ : ∃ cd, zIv x (x + 261) cd σ := hI0.elim (fun h => ⟨_, h⟩) id
  obtain ⟨fs, hx⟩ := hI.ox
  obtain ⟨Fo, hyo, -⟩ := hI.oy
  obtain ⟨⟨A, S, m, U, n, T, ll, ln, hs1, kf, ld, dt, dc⟩, hK, hM, hL⟩ := hI
  refine zr_aload_n dL_law_611 rfl ?_
  refine zr_aload_n dL_law_612 rfl ?_
  refine zr_iload dL_law_613 rfl ?_
  refine zr_iconst (v := 1) dL_law_615 (by decide) ?_
  refine zr_iadd dL_law_616 ?_
  refine zr_eqi (x' := nI (i + 1)) (nI_add i 1) ?_
  refine zr_sat dL_law_617 (vp_in_nI (n := i + 1) (by omega) (by omega)) ?_
  rw [nI_clamp (n := i + 1) (by omega)]
  refine zr_aload_n dL_law_618 rfl ?_
  refine zr_iload dL_law_619 rfl ?_
  refine zr_iconst (v := 2) dL_law_621 (by decide) ?_
  refine zr_iadd dL_law_622 ?_
  refine zr_eqi (x' := nI (i + 2)) (nI_add i 2) ?_
  refine zr_sat dL_law_623 (vp_in_nI (n := i + 2) (by omega) (by omega)) ?_
  rw [nI_clamp (n := i + 2) (by omega)]
  refine zr_aload_n dL_law_624 rfl ?_
  have hsm := sem_letterAt hX hK hM hL hN hQ (X.2.2.2.2.2.2 (i + 1)) (X.2.2.2.2.2.2 (i + 2))
  rcases hsm with ⟨v, d1, mc, ms, Qs, d9, m1, m6, hc, hr⟩ | ⟨E, k, d1, mc, ms, Qs, hk, d9, m1, m6, hc, hr⟩
  · refine zr_callH (rest := []) dL_law_625 vL_197 (wOK_letterAt hX hc hx (fun s2 hq => zFr.get (hr s2 hq).1 (by unfold zXr; omega) ho)) (by omega) (by omega) (by omega) rfl rfl (Nat.le_of_ble_eq_true rfl) rfl (fun v2 s1 h_ => ?_) (fun E1 s1 h_ => by obtain ⟨r, e, -⟩ := h_; cases e)
    obtain ⟨r, e, e2, s2, hq, et⟩ := h_
    cases e
    rw [e2]
    have F0 := (hr _ hq).1
    have hy0 := zFr.get F0 (by unfold zXr; omega) hyo
    have Ft : zFr s2 s1 (zOu x) := by rw [et]; exact ⟨rfl, fun a ha => zup_ne _ _ (fun z => ha (by unfold zOu; omega))⟩
    obtain ⟨d2, d29, hr2⟩ := (hr _ hq).2 s1 Ft
    have hy := zFr.get Ft (by unfold zOu; omega) hy0
    have F1 : zFr σ s1 (fun q => x ≤ q ∧ q < x + 274) := zFr.tr (F0.w (fun q hq => by unfold zXr at hq; omega)) (P := fun q => x ≤ q ∧ q < x + 274) (show zFr s2 s1 (fun q => x ≤ q ∧ q < x + 274) from by rw [et]; exact ⟨rfl, fun a ha => zup_ne _ _ (fun z => ha (by omega))⟩) (fun q hq => hq)
    have ko : s1.1 (x + 273) = .inl (3, 1, .inr (.inl (vp_updL f 0 v.toInt64))) := by rw [et]; exact zup_at _ _ _
    refine zr_istore (ls' := [some (.ref ((zQ X 37))), some (.ref x), some (.ref ((x + 261))), some (.ref ((x + 273))), some (.ref ((x + 274))), some (.int (nI i)), some (.int 0), l7, l8]) dL_law_628 (by decide) rfl ?_
    refine zr_aload_n dL_law_630 rfl ?_
    refine zr_aload_n dL_law_631 rfl ?_
    refine zr_iload dL_law_632 rfl ?_
    refine zr_iconst (v := 1) dL_law_634 (by decide) ?_
    refine zr_iadd dL_law_635 ?_
    refine zr_eqi (x' := nI (i + 1)) (nI_add i 1) ?_
    refine zr_sat dL_law_636 (vp_in_nI (n := i + 1) (by omega) (by omega)) ?_
    rw [nI_clamp (n := i + 1) (by omega)]
    refine zr_aload_n dL_law_637 rfl ?_
    refine zr_iload dL_law_638 rfl ?_
    refine zr_iconst (v := 2) dL_law_640 (by decide) ?_
    refine zr_iadd dL_law_641 ?_
    refine zr_eqi (x' := nI (i + 2)) (nI_add i 2) ?_
    refine zr_sat dL_law_642 (vp_in_nI (n := i + 2) (by omega) (by omega)) ?_
    rw [nI_clamp (n := i + 2) (by omega)]
    refine zr_callVi (rest := []) dL_law_643 vL_200 hr2 hy (by omega) (by omega) (by omega) rfl rfl (Nat.le_of_ble_eq_true rfl) (by decide) rfl (fun r3 u h3 => ?_)
    obtain ⟨er, F2, hI⟩ := h3
    rw [er]
    have F3 : zFr σ u (fun q => x ≤ q ∧ q < x + 274) := zFr.tr F1 F2 (fun q hq => by unfold zMr at hq; omega)
    have ko2 := zFr.get F2 (by unfold zMr; omega) ko
    obtain ⟨F8, h8, e8⟩ := hI.oy
    refine zr_istore (ls' := [some (.ref ((zQ X 37))), some (.ref x), some (.ref ((x + 261))), some (.ref ((x + 273))), some (.ref ((x + 274))), some (.int (nI i)), some (.int 0), some (.int v), l8]) dL_law_646 (by decide) rfl ?_
    refine zr_aload_n dL_law_648 rfl ?_
    refine zr_pVi (rest := []) dL_law_649 vL_173 (qX10_thrown hX h8) h8 (by omega) (by omega) (by omega) rfl rfl (Nat.le_of_ble_eq_true rfl) (by decide) rfl ?_
    refine zr_eqi (x' := 0) e8 ?_
    refine zr_iload dL_law_652 rfl ?_
    refine zr_icmp_eq (tgt := 659) dL_law_654 (by decide) (fun c_654 => ?_) (fun c_654 => absurd (by decide) c_654)
    refine zr_iload dL_law_659 rfl ?_
    refine zr_if_ne (tgt := 676) dL_law_661 (by decide) (fun c_661 => absurd (by decide) c_661) (fun c_661 => ?_)
    refine zr_aload_n dL_law_664 rfl ?_
    refine zr_iconst (v := 0) dL_law_665 (by decide) ?_
    refine zr_laload dL_law_666 ko2 (vp_in_nI (n := 0) (by omega) (by omega)) ?_
    rw [show (0 : Int32).toNatClampNeg = 0 from by decide]
    refine zr_eql (x' := v.toInt64) (by unfold vp_updL; rw [if_pos rfl]) ?_
    refine zr_iload dL_law_667 rfl ?_
    refine zr_i2l dL_law_669 ?_
    refine zr_lcmp dL_law_670 ?_
    refine zr_eqi (x' := 0) (lcmp_self _) ?_
    refine zr_if_eq (tgt := 676) dL_law_671 (by decide) (fun c_671 => ?_) (fun c_671 => absurd (by decide) c_671)
    refine zr_goto (tgt := 2861) dL_law_676 (by decide) ?_
    exact zr_less (by omega) (by omega) (kk u _ _ _ _ hI F3 ko2)
  · skip
    rcases List.mem_cons.mp hk with ek | hk
    · cases ek
      refine zr_callH (rest := []) dL_law_625 vL_197 (wN1_letterAt hX hc hx) (by omega) (by omega) (by omega) rfl rfl (Nat.le_of_ble_eq_true rfl) rfl (fun v2 s1 h_ => ?_) (fun E1 s1 h_ => by obtain ⟨r, e, -⟩ := h_; cases e)
      obtain ⟨r, e, e2, hq⟩ := h_
      cases e
      rw [e2]
      have F0 := (hr _ hq).1
      have hy0 := zFr.get F0 (by unfold zXr; omega) hyo
      obtain ⟨d2, d29, hr2⟩ := (hr _ hq).2 s1 zFr.rf
      have hy := hy0
      have F1 : zFr σ s1 (fun q => x ≤ q ∧ q < x + 274) := F0.w (fun q hq => by unfold zXr at hq; omega)
      have ko := zFr.get F0 (by unfold zXr; omega) ho
      refine zr_istore (ls' := [some (.ref ((zQ X 37))), some (.ref x), some (.ref ((x + 261))), some (.ref ((x + 273))), some (.ref ((x + 274))), some (.int (nI i)), some (.int 1), l7, l8]) dL_law_628 (by decide) rfl ?_
      refine zr_aload_n dL_law_630 rfl ?_
      refine zr_aload_n dL_law_631 rfl ?_
      refine zr_iload dL_law_632 rfl ?_
      refine zr_iconst (v := 1) dL_law_634 (by decide) ?_
      refine zr_iadd dL_law_635 ?_
      refine zr_eqi (x' := nI (i + 1)) (nI_add i 1) ?_
      refine zr_sat dL_law_636 (vp_in_nI (n := i + 1) (by omega) (by omega)) ?_
      rw [nI_clamp (n := i + 1) (by omega)]
      refine zr_aload_n dL_law_637 rfl ?_
      refine zr_iload dL_law_638 rfl ?_
      refine zr_iconst (v := 2) dL_law_640 (by decide) ?_
      refine zr_iadd dL_law_641 ?_
      refine zr_eqi (x' := nI (i + 2)) (nI_add i 2) ?_
      refine zr_sat dL_law_642 (vp_in_nI (n := i + 2) (by omega) (by omega)) ?_
      rw [nI_clamp (n := i + 2) (by omega)]
      refine zr_callVi (rest := []) dL_law_643 vL_200 hr2 hy (by omega) (by omega) (by omega) rfl rfl (Nat.le_of_ble_eq_true rfl) (by decide) rfl (fun r3 u h3 => ?_)
      obtain ⟨er, F2, hI⟩ := h3
      have F3 : zFr σ u (fun q => x ≤ q ∧ q < x + 274) := zFr.tr F1 F2 (fun q hq => by unfold zMr at hq; omega)
      have ko2 := zFr.get F2 (by unfold zMr; omega) ko
      obtain ⟨F8, h8, e8⟩ := hI.oy
      refine zr_istore (ls' := [some (.ref ((zQ X 37))), some (.ref x), some (.ref ((x + 261))), some (.ref ((x + 273))), some (.ref ((x + 274))), some (.int (nI i)), some (.int 1), some (.int r3), l8]) dL_law_646 (by decide) rfl ?_
      refine zr_aload_n dL_law_648 rfl ?_
      refine zr_pVi (rest := []) dL_law_649 vL_173 (qX10_thrown hX h8) h8 (by omega) (by omega) (by omega) rfl rfl (Nat.le_of_ble_eq_true rfl) (by decide) rfl ?_
      refine zr_eqi (x' := 1) e8 ?_
      refine zr_iload dL_law_652 rfl ?_
      refine zr_icmp_eq (tgt := 659) dL_law_654 (by decide) (fun c_654 => ?_) (fun c_654 => absurd (by decide) c_654)
      refine zr_iload dL_law_659 rfl ?_
      refine zr_if_ne (tgt := 676) dL_law_661 (by decide) (fun c_661 => ?_) (fun c_661 => absurd c_661 (by decide))
      refine zr_goto (tgt := 2861) dL_law_676 (by decide) ?_
      exact zr_less (by omega) (by omega) (kk u _ _ _ _ hI F3 ko2)
    · skip
      rcases List.mem_cons.mp hk with ek | hk
      · cases ek
        refine zr_callH (rest := []) dL_law_625 vL_197 (wN2_letterAt hX hc hx) (by omega) (by omega) (by omega) rfl rfl (Nat.le_of_ble_eq_true rfl) rfl (fun v2 s1 h_ => ?_) (fun E1 s1 h_ => by obtain ⟨r, e, -⟩ := h_; cases e)
        obtain ⟨r, e, e2, hq⟩ := h_
        cases e
        rw [e2]
        have F0 := (hr _ hq).1
        have hy0 := zFr.get F0 (by unfold zXr; omega) hyo
        obtain ⟨d2, d29, hr2⟩ := (hr _ hq).2 s1 zFr.rf
        have hy := hy0
        have F1 : zFr σ s1 (fun q => x ≤ q ∧ q < x + 274) := F0.w (fun q hq => by unfold zXr at hq; omega)
        have ko := zFr.get F0 (by unfold zXr; omega) ho
        refine zr_istore (ls' := [some (.ref ((zQ X 37))), some (.ref x), some (.ref ((x + 261))), some (.ref ((x + 273))), some (.ref ((x + 274))), some (.int (nI i)), some (.int 2), l7, l8]) dL_law_628 (by decide) rfl ?_
        refine zr_aload_n dL_law_630 rfl ?_
        refine zr_aload_n dL_law_631 rfl ?_
        refine zr_iload dL_law_632 rfl ?_
        refine zr_iconst (v := 1) dL_law_634 (by decide) ?_
        refine zr_iadd dL_law_635 ?_
        refine zr_eqi (x' := nI (i + 1)) (nI_add i 1) ?_
        refine zr_sat dL_law_636 (vp_in_nI (n := i + 1) (by omega) (by omega)) ?_
        rw [nI_clamp (n := i + 1) (by omega)]
        refine zr_aload_n dL_law_637 rfl ?_
        refine zr_iload dL_law_638 rfl ?_
        refine zr_iconst (v := 2) dL_law_640 (by decide) ?_
        refine zr_iadd dL_law_641 ?_
        refine zr_eqi (x' := nI (i + 2)) (nI_add i 2) ?_
        refine zr_sat dL_law_642 (vp_in_nI (n := i + 2) (by omega) (by omega)) ?_
        rw [nI_clamp (n := i + 2) (by omega)]
        refine zr_callVi (rest := []) dL_law_643 vL_200 hr2 hy (by omega) (by omega) (by omega) rfl rfl (Nat.le_of_ble_eq_true rfl) (by decide) rfl (fun r3 u h3 => ?_)
        obtain ⟨er, F2, hI⟩ := h3
        have F3 : zFr σ u (fun q => x ≤ q ∧ q < x + 274) := zFr.tr F1 F2 (fun q hq => by unfold zMr at hq; omega)
        have ko2 := zFr.get F2 (by unfold zMr; omega) ko
        obtain ⟨F8, h8, e8⟩ := hI.oy
        refine zr_istore (ls' := [some (.ref ((zQ X 37))), some (.ref x), some (.ref ((x + 261))), some (.ref ((x + 273))), some (.ref ((x + 274))), some (.int (nI i)), some (.int 2), some (.int r3), l8]) dL_law_646 (by decide) rfl ?_
        refine zr_aload_n dL_law_648 rfl ?_
        refine zr_pVi (rest := []) dL_law_649 vL_173 (qX10_thrown hX h8) h8 (by omega) (by omega) (by omega) rfl rfl (Nat.le_of_ble_eq_true rfl) (by decide) rfl ?_
        refine zr_eqi (x' := 2) e8 ?_
        refine zr_iload dL_law_652 rfl ?_
        refine zr_icmp_eq (tgt := 659) dL_law_654 (by decide) (fun c_654 => ?_) (fun c_654 => absurd (by decide) c_654)
        refine zr_iload dL_law_659 rfl ?_
        refine zr_if_ne (tgt := 676) dL_law_661 (by decide) (fun c_661 => ?_) (fun c_661 => absurd c_661 (by decide))
        refine zr_goto (tgt := 2861) dL_law_676 (by decide) ?_
        exact zr_less (by omega) (by omega) (kk u _ _ _ _ hI F3 ko2)
      · skip
        cases hk

set_option maxHeartbeats 400000 in
set_option maxRecDepth 100000 in
theorem blk_hasHandle {X : zX} (hX : X.1.stackTraces = false) {Q : zO → zS → Prop} {σ : zS} {x i bc bs : Nat} {l6 l7 l8 : Option Value} {f : Nat → Int64} (hQ : ∀ i j : Nat, i < 7 → j < 7 → zQ X i = zQ X j → i = j) (hi : i + 4 ≤ zsL X) (hs : zsL X < 2 ^ 31) (hI0 : zIv x (x + 261) 0 σ ∨ ∃ cd, zIv x (x + 261) cd σ) (hN : σ.2 = none) (ho : σ.1 (x + 273) = .inl (3, 1, .inr (.inl f))) (kk : ∀ (s : zS) (cd : Int32) (f2 : Nat → Int64) (m6 m7 : Option Value), zIv x (x + 261) cd s → zFr σ s (fun q => x ≤ q ∧ q < x + 274) → s.1 (x + 273) = .inl (3, 1, .inr (.inl f2)) → zW X mL_law 12 bc bs Q 2861 [some (.ref (zQ X 37)), some (.ref x), some (.ref (x + 261)), some (.ref (x + 273)), some (.ref (x + 274)), some (.int (nI i)), m6, m7, l8] [] s) : zW X mL_law 12 (bc + 1) (bs + 6) Q 679 [some (.ref (zQ X 37)), some (.ref x), some (.ref (x + 261)), some (.ref (x + 273)), some (.ref (x + 274)), some (.int (nI i)), l6, l7, l8] [] σ := by
  have hs2 : zsL X = X.2.2.2.2.2.1 := rfl
  obtain ⟨cd, hI⟩ : ∃ cd, zIv x (x + 261) cd σ := hI0.elim (fun h => ⟨_, h⟩) id
  obtain ⟨fs, hx⟩ := hI.ox
  obtain ⟨Fo, hyo, -⟩ := hI.oy
  obtain ⟨⟨A, S, m, U, n, T, ll, ln, hs1, kf, ld, dt, dc⟩, hK, hM, hL⟩ := hI
  refine zr_aload_n dL_law_679 rfl ?_
  refine zr_aload_n dL_law_680 rfl ?_
  refine zr_iload dL_law_681 rfl ?_
  refine zr_iconst (v := 1) dL_law_683 (by decide) ?_
  refine zr_iadd dL_law_684 ?_
  refine zr_eqi (x' := nI (i + 1)) (nI_add i 1) ?_
  refine zr_sat dL_law_685 (vp_in_nI (n := i + 1) (by omega) (by omega)) ?_
  rw [nI_clamp (n := i + 1) (by omega)]
  refine zr_aload_n dL_law_686 rfl ?_
  have hsm := sem_hasHandle hX hK hM hL hN hQ (X.2.2.2.2.2.2 (i + 1))
  rcases hsm with ⟨v, d1, mc, ms, Qs, d9, m1, m6, hc, hr⟩ | ⟨E, k, d1, mc, ms, Qs, hk, d9, m1, m6, hc, hr⟩
  · refine zr_callH (rest := []) dL_law_687 vL_201 (wOK_hasHandle hX hc hx (fun s2 hq => zFr.get (hr s2 hq).1 (by unfold zXr; omega) ho)) (by omega) (by omega) (by omega) rfl rfl (Nat.le_of_ble_eq_true rfl) rfl (fun v2 s1 h_ => ?_) (fun E1 s1 h_ => by obtain ⟨r, e, -⟩ := h_; cases e)
    obtain ⟨r, e, e2, s2, hq, et⟩ := h_
    cases e
    rw [e2]
    have F0 := (hr _ hq).1
    have hy0 := zFr.get F0 (by unfold zXr; omega) hyo
    have Ft : zFr s2 s1 (zOu x) := by rw [et]; exact ⟨rfl, fun a ha => zup_ne _ _ (fun z => ha (by unfold zOu; omega))⟩
    obtain ⟨d2, d29, hr2⟩ := (hr _ hq).2 s1 Ft
    have hy := zFr.get Ft (by unfold zOu; omega) hy0
    have F1 : zFr σ s1 (fun q => x ≤ q ∧ q < x + 274) := zFr.tr (F0.w (fun q hq => by unfold zXr at hq; omega)) (P := fun q => x ≤ q ∧ q < x + 274) (show zFr s2 s1 (fun q => x ≤ q ∧ q < x + 274) from by rw [et]; exact ⟨rfl, fun a ha => zup_ne _ _ (fun z => ha (by omega))⟩) (fun q hq => hq)
    have ko : s1.1 (x + 273) = .inl (3, 1, .inr (.inl (vp_updL f 0 (if v = 0 then 0 else 1)))) := by rw [et]; exact zup_at _ _ _
    refine zr_istore (ls' := [some (.ref ((zQ X 37))), some (.ref x), some (.ref ((x + 261))), some (.ref ((x + 273))), some (.ref ((x + 274))), some (.int (nI i)), some (.int 0), l7, l8]) dL_law_690 (by decide) rfl ?_
    refine zr_aload_n dL_law_692 rfl ?_
    refine zr_aload_n dL_law_693 rfl ?_
    refine zr_iload dL_law_694 rfl ?_
    refine zr_iconst (v := 1) dL_law_696 (by decide) ?_
    refine zr_iadd dL_law_697 ?_
    refine zr_eqi (x' := nI (i + 1)) (nI_add i 1) ?_
    refine zr_sat dL_law_698 (vp_in_nI (n := i + 1) (by omega) (by omega)) ?_
    rw [nI_clamp (n := i + 1) (by omega)]
    refine zr_callVi (rest := []) dL_law_699 vL_203 hr2 hy (by omega) (by omega) (by omega) rfl rfl (Nat.le_of_ble_eq_true rfl) (by decide) rfl (fun r3 u h3 => ?_)
    obtain ⟨er, F2, hI⟩ := h3
    rw [er]
    have F3 : zFr σ u (fun q => x ≤ q ∧ q < x + 274) := zFr.tr F1 F2 (fun q hq => by unfold zMr at hq; omega)
    have ko2 := zFr.get F2 (by unfold zMr; omega) ko
    obtain ⟨F8, h8, e8⟩ := hI.oy
    refine zr_istore (ls' := [some (.ref ((zQ X 37))), some (.ref x), some (.ref ((x + 261))), some (.ref ((x + 273))), some (.ref ((x + 274))), some (.int (nI i)), some (.int 0), some (.int v), l8]) dL_law_702 (by decide) rfl ?_
    refine zr_aload_n dL_law_704 rfl ?_
    refine zr_pVi (rest := []) dL_law_705 vL_173 (qX10_thrown hX h8) h8 (by omega) (by omega) (by omega) rfl rfl (Nat.le_of_ble_eq_true rfl) (by decide) rfl ?_
    refine zr_eqi (x' := 0) e8 ?_
    refine zr_iload dL_law_708 rfl ?_
    refine zr_icmp_eq (tgt := 715) dL_law_710 (by decide) (fun c_710 => ?_) (fun c_710 => absurd (by decide) c_710)
    refine zr_iload dL_law_715 rfl ?_
    refine zr_if_ne (tgt := 739) dL_law_717 (by decide) (fun c_717 => absurd (by decide) c_717) (fun c_717 => ?_)
    refine zr_aload_n dL_law_720 rfl ?_
    refine zr_iconst (v := 0) dL_law_721 (by decide) ?_
    refine zr_laload dL_law_722 ko2 (vp_in_nI (n := 0) (by omega) (by omega)) ?_
    rw [show (0 : Int32).toNatClampNeg = 0 from by decide]
    refine zr_eql (x' := (if v = 0 then 0 else 1)) (by unfold vp_updL; rw [if_pos rfl]) ?_
    refine zr_iload dL_law_723 rfl ?_
    refine zr_if_eq (tgt := 732) dL_law_725 (by decide) (fun c_725 => ?_) (fun c_725 => ?_)
    · refine zr_lconst (v := 0) dL_law_732 (by decide) ?_
      refine zr_lcmp dL_law_733 ?_
      refine zr_eqi (x' := 0) (by rw [if_pos c_725]; exact lcmp_self _) ?_
      refine zr_if_eq (tgt := 739) dL_law_734 (by decide) (fun c_734 => ?_) (fun c_734 => absurd (by decide) c_734)
      refine zr_goto (tgt := 2861) dL_law_739 (by decide) ?_
      exact zr_less (by omega) (by omega) (kk u _ _ _ _ hI F3 ko2)
    · refine zr_lconst (v := 1) dL_law_728 (by decide) ?_
      refine zr_goto (tgt := 733) dL_law_729 (by decide) ?_
      refine zr_lcmp dL_law_733 ?_
      refine zr_eqi (x' := 0) (by rw [if_neg c_725]; exact lcmp_self _) ?_
      refine zr_if_eq (tgt := 739) dL_law_734 (by decide) (fun c_734 => ?_) (fun c_734 => absurd (by decide) c_734)
      refine zr_goto (tgt := 2861) dL_law_739 (by decide) ?_
      exact zr_less (by omega) (by omega) (kk u _ _ _ _ hI F3 ko2)
  · skip
    rcases List.mem_cons.mp hk with ek | hk
    · cases ek
      refine zr_callH (rest := []) dL_law_687 vL_201 (wN1_hasHandle hX hc hx) (by omega) (by omega) (by omega) rfl rfl (Nat.le_of_ble_eq_true rfl) rfl (fun v2 s1 h_ => ?_) (fun E1 s1 h_ => by obtain ⟨r, e, -⟩ := h_; cases e)
      obtain ⟨r, e, e2, hq⟩ := h_
      cases e
      rw [e2]
      have F0 := (hr _ hq).1
      have hy0 := zFr.get F0 (by unfold zXr; omega) hyo
      obtain ⟨d2, d29, hr2⟩ := (hr _ hq).2 s1 zFr.rf
      have hy := hy0
      have F1 : zFr σ s1 (fun q => x ≤ q ∧ q < x + 274) := F0.w (fun q hq => by unfold zXr at hq; omega)
      have ko := zFr.get F0 (by unfold zXr; omega) ho
      refine zr_istore (ls' := [some (.ref ((zQ X 37))), some (.ref x), some (.ref ((x + 261))), some (.ref ((x + 273))), some (.ref ((x + 274))), some (.int (nI i)), some (.int 1), l7, l8]) dL_law_690 (by decide) rfl ?_
      refine zr_aload_n dL_law_692 rfl ?_
      refine zr_aload_n dL_law_693 rfl ?_
      refine zr_iload dL_law_694 rfl ?_
      refine zr_iconst (v := 1) dL_law_696 (by decide) ?_
      refine zr_iadd dL_law_697 ?_
      refine zr_eqi (x' := nI (i + 1)) (nI_add i 1) ?_
      refine zr_sat dL_law_698 (vp_in_nI (n := i + 1) (by omega) (by omega)) ?_
      rw [nI_clamp (n := i + 1) (by omega)]
      refine zr_callVi (rest := []) dL_law_699 vL_203 hr2 hy (by omega) (by omega) (by omega) rfl rfl (Nat.le_of_ble_eq_true rfl) (by decide) rfl (fun r3 u h3 => ?_)
      obtain ⟨er, F2, hI⟩ := h3
      have F3 : zFr σ u (fun q => x ≤ q ∧ q < x + 274) := zFr.tr F1 F2 (fun q hq => by unfold zMr at hq; omega)
      have ko2 := zFr.get F2 (by unfold zMr; omega) ko
      obtain ⟨F8, h8, e8⟩ := hI.oy
      refine zr_istore (ls' := [some (.ref ((zQ X 37))), some (.ref x), some (.ref ((x + 261))), some (.ref ((x + 273))), some (.ref ((x + 274))), some (.int (nI i)), some (.int 1), some (.int r3), l8]) dL_law_702 (by decide) rfl ?_
      refine zr_aload_n dL_law_704 rfl ?_
      refine zr_pVi (rest := []) dL_law_705 vL_173 (qX10_thrown hX h8) h8 (by omega) (by omega) (by omega) rfl rfl (Nat.le_of_ble_eq_true rfl) (by decide) rfl ?_
      refine zr_eqi (x' := 1) e8 ?_
      refine zr_iload dL_law_708 rfl ?_
      refine zr_icmp_eq (tgt := 715) dL_law_710 (by decide) (fun c_710 => ?_) (fun c_710 => absurd (by decide) c_710)
      refine zr_iload dL_law_715 rfl ?_
      refine zr_if_ne (tgt := 739) dL_law_717 (by decide) (fun c_717 => ?_) (fun c_717 => absurd c_717 (by decide))
      refine zr_goto (tgt := 2861) dL_law_739 (by decide) ?_
      exact zr_less (by omega) (by omega) (kk u _ _ _ _ hI F3 ko2)
    · skip
      cases hk

set_option maxHeartbeats 400000 in
set_option maxRecDepth 100000 in
theorem blk_handleBegin {X : zX} (hX : X.1.stackTraces = false) {Q : zO → zS → Prop} {σ : zS} {x i bc bs : Nat} {l6 l7 l8 : Option Value} {f : Nat → Int64} (hQ : ∀ i j : Nat, i < 7 → j < 7 → zQ X i = zQ X j → i = j) (hi : i + 4 ≤ zsL X) (hs : zsL X < 2 ^ 31) (hI0 : zIv x (x + 261) 0 σ ∨ ∃ cd, zIv x (x + 261) cd σ) (hN : σ.2 = none) (ho : σ.1 (x + 273) = .inl (3, 1, .inr (.inl f))) (kk : ∀ (s : zS) (cd : Int32) (f2 : Nat → Int64) (m6 m7 : Option Value), zIv x (x + 261) cd s → zFr σ s (fun q => x ≤ q ∧ q < x + 274) → s.1 (x + 273) = .inl (3, 1, .inr (.inl f2)) → zW X mL_law 12 bc bs Q 2861 [some (.ref (zQ X 37)), some (.ref x), some (.ref (x + 261)), some (.ref (x + 273)), some (.ref (x + 274)), some (.int (nI i)), m6, m7, l8] [] s) : zW X mL_law 12 (bc + 1) (bs + 6) Q 742 [some (.ref (zQ X 37)), some (.ref x), some (.ref (x + 261)), some (.ref (x + 273)), some (.ref (x + 274)), some (.int (nI i)), l6, l7, l8] [] σ := by
  have hs2 : zsL X = X.2.2.2.2.2.1 := rfl
  obtain ⟨cd, hI⟩ : ∃ cd, zIv x (x + 261) cd σ := hI0.elim (fun h => ⟨_, h⟩) id
  obtain ⟨fs, hx⟩ := hI.ox
  obtain ⟨Fo, hyo, -⟩ := hI.oy
  obtain ⟨⟨A, S, m, U, n, T, ll, ln, hs1, kf, ld, dt, dc⟩, hK, hM, hL⟩ := hI
  refine zr_aload_n dL_law_742 rfl ?_
  refine zr_aload_n dL_law_743 rfl ?_
  refine zr_iload dL_law_744 rfl ?_
  refine zr_iconst (v := 1) dL_law_746 (by decide) ?_
  refine zr_iadd dL_law_747 ?_
  refine zr_eqi (x' := nI (i + 1)) (nI_add i 1) ?_
  refine zr_sat dL_law_748 (vp_in_nI (n := i + 1) (by omega) (by omega)) ?_
  rw [nI_clamp (n := i + 1) (by omega)]
  refine zr_aload_n dL_law_749 rfl ?_
  have hsm := sem_handleBegin hX hK hM hL hN hQ (X.2.2.2.2.2.2 (i + 1))
  rcases hsm with ⟨v, d1, mc, ms, Qs, d9, m1, m6, hc, hr⟩ | ⟨E, k, d1, mc, ms, Qs, hk, d9, m1, m6, hc, hr⟩
  · refine zr_callH (rest := []) dL_law_750 vL_204 (wOK_handleBegin hX hc hx (fun s2 hq => zFr.get (hr s2 hq).1 (by unfold zXr; omega) ho)) (by omega) (by omega) (by omega) rfl rfl (Nat.le_of_ble_eq_true rfl) rfl (fun v2 s1 h_ => ?_) (fun E1 s1 h_ => by obtain ⟨r, e, -⟩ := h_; cases e)
    obtain ⟨r, e, e2, s2, hq, et⟩ := h_
    cases e
    rw [e2]
    have F0 := (hr _ hq).1
    have hy0 := zFr.get F0 (by unfold zXr; omega) hyo
    have Ft : zFr s2 s1 (zOu x) := by rw [et]; exact ⟨rfl, fun a ha => zup_ne _ _ (fun z => ha (by unfold zOu; omega))⟩
    obtain ⟨d2, d29, hr2⟩ := (hr _ hq).2 s1 Ft
    have hy := zFr.get Ft (by unfold zOu; omega) hy0
    have F1 : zFr σ s1 (fun q => x ≤ q ∧ q < x + 274) := zFr.tr (F0.w (fun q hq => by unfold zXr at hq; omega)) (P := fun q => x ≤ q ∧ q < x + 274) (show zFr s2 s1 (fun q => x ≤ q ∧ q < x + 274) from by rw [et]; exact ⟨rfl, fun a ha => zup_ne _ _ (fun z => ha (by omega))⟩) (fun q hq => hq)
    have ko : s1.1 (x + 273) = .inl (3, 1, .inr (.inl (vp_updL f 0 v.toInt64))) := by rw [et]; exact zup_at _ _ _
    refine zr_istore (ls' := [some (.ref ((zQ X 37))), some (.ref x), some (.ref ((x + 261))), some (.ref ((x + 273))), some (.ref ((x + 274))), some (.int (nI i)), some (.int 0), l7, l8]) dL_law_753 (by decide) rfl ?_
    refine zr_aload_n dL_law_755 rfl ?_
    refine zr_aload_n dL_law_756 rfl ?_
    refine zr_iload dL_law_757 rfl ?_
    refine zr_iconst (v := 1) dL_law_759 (by decide) ?_
    refine zr_iadd dL_law_760 ?_
    refine zr_eqi (x' := nI (i + 1)) (nI_add i 1) ?_
    refine zr_sat dL_law_761 (vp_in_nI (n := i + 1) (by omega) (by omega)) ?_
    rw [nI_clamp (n := i + 1) (by omega)]
    refine zr_callVi (rest := []) dL_law_762 vL_206 hr2 hy (by omega) (by omega) (by omega) rfl rfl (Nat.le_of_ble_eq_true rfl) (by decide) rfl (fun r3 u h3 => ?_)
    obtain ⟨er, F2, hI⟩ := h3
    rw [er]
    have F3 : zFr σ u (fun q => x ≤ q ∧ q < x + 274) := zFr.tr F1 F2 (fun q hq => by unfold zMr at hq; omega)
    have ko2 := zFr.get F2 (by unfold zMr; omega) ko
    obtain ⟨F8, h8, e8⟩ := hI.oy
    refine zr_istore (ls' := [some (.ref ((zQ X 37))), some (.ref x), some (.ref ((x + 261))), some (.ref ((x + 273))), some (.ref ((x + 274))), some (.int (nI i)), some (.int 0), some (.int v), l8]) dL_law_765 (by decide) rfl ?_
    refine zr_aload_n dL_law_767 rfl ?_
    refine zr_pVi (rest := []) dL_law_768 vL_173 (qX10_thrown hX h8) h8 (by omega) (by omega) (by omega) rfl rfl (Nat.le_of_ble_eq_true rfl) (by decide) rfl ?_
    refine zr_eqi (x' := 0) e8 ?_
    refine zr_iload dL_law_771 rfl ?_
    refine zr_icmp_eq (tgt := 778) dL_law_773 (by decide) (fun c_773 => ?_) (fun c_773 => absurd (by decide) c_773)
    refine zr_iload dL_law_778 rfl ?_
    refine zr_if_ne (tgt := 795) dL_law_780 (by decide) (fun c_780 => absurd (by decide) c_780) (fun c_780 => ?_)
    refine zr_aload_n dL_law_783 rfl ?_
    refine zr_iconst (v := 0) dL_law_784 (by decide) ?_
    refine zr_laload dL_law_785 ko2 (vp_in_nI (n := 0) (by omega) (by omega)) ?_
    rw [show (0 : Int32).toNatClampNeg = 0 from by decide]
    refine zr_eql (x' := v.toInt64) (by unfold vp_updL; rw [if_pos rfl]) ?_
    refine zr_iload dL_law_786 rfl ?_
    refine zr_i2l dL_law_788 ?_
    refine zr_lcmp dL_law_789 ?_
    refine zr_eqi (x' := 0) (lcmp_self _) ?_
    refine zr_if_eq (tgt := 795) dL_law_790 (by decide) (fun c_790 => ?_) (fun c_790 => absurd (by decide) c_790)
    refine zr_goto (tgt := 2861) dL_law_795 (by decide) ?_
    exact zr_less (by omega) (by omega) (kk u _ _ _ _ hI F3 ko2)
  · skip
    rcases List.mem_cons.mp hk with ek | hk
    · cases ek
      refine zr_callH (rest := []) dL_law_750 vL_204 (wN1_handleBegin hX hc hx) (by omega) (by omega) (by omega) rfl rfl (Nat.le_of_ble_eq_true rfl) rfl (fun v2 s1 h_ => ?_) (fun E1 s1 h_ => by obtain ⟨r, e, -⟩ := h_; cases e)
      obtain ⟨r, e, e2, hq⟩ := h_
      cases e
      rw [e2]
      have F0 := (hr _ hq).1
      have hy0 := zFr.get F0 (by unfold zXr; omega) hyo
      obtain ⟨d2, d29, hr2⟩ := (hr _ hq).2 s1 zFr.rf
      have hy := hy0
      have F1 : zFr σ s1 (fun q => x ≤ q ∧ q < x + 274) := F0.w (fun q hq => by unfold zXr at hq; omega)
      have ko := zFr.get F0 (by unfold zXr; omega) ho
      refine zr_istore (ls' := [some (.ref ((zQ X 37))), some (.ref x), some (.ref ((x + 261))), some (.ref ((x + 273))), some (.ref ((x + 274))), some (.int (nI i)), some (.int 1), l7, l8]) dL_law_753 (by decide) rfl ?_
      refine zr_aload_n dL_law_755 rfl ?_
      refine zr_aload_n dL_law_756 rfl ?_
      refine zr_iload dL_law_757 rfl ?_
      refine zr_iconst (v := 1) dL_law_759 (by decide) ?_
      refine zr_iadd dL_law_760 ?_
      refine zr_eqi (x' := nI (i + 1)) (nI_add i 1) ?_
      refine zr_sat dL_law_761 (vp_in_nI (n := i + 1) (by omega) (by omega)) ?_
      rw [nI_clamp (n := i + 1) (by omega)]
      refine zr_callVi (rest := []) dL_law_762 vL_206 hr2 hy (by omega) (by omega) (by omega) rfl rfl (Nat.le_of_ble_eq_true rfl) (by decide) rfl (fun r3 u h3 => ?_)
      obtain ⟨er, F2, hI⟩ := h3
      have F3 : zFr σ u (fun q => x ≤ q ∧ q < x + 274) := zFr.tr F1 F2 (fun q hq => by unfold zMr at hq; omega)
      have ko2 := zFr.get F2 (by unfold zMr; omega) ko
      obtain ⟨F8, h8, e8⟩ := hI.oy
      refine zr_istore (ls' := [some (.ref ((zQ X 37))), some (.ref x), some (.ref ((x + 261))), some (.ref ((x + 273))), some (.ref ((x + 274))), some (.int (nI i)), some (.int 1), some (.int r3), l8]) dL_law_765 (by decide) rfl ?_
      refine zr_aload_n dL_law_767 rfl ?_
      refine zr_pVi (rest := []) dL_law_768 vL_173 (qX10_thrown hX h8) h8 (by omega) (by omega) (by omega) rfl rfl (Nat.le_of_ble_eq_true rfl) (by decide) rfl ?_
      refine zr_eqi (x' := 1) e8 ?_
      refine zr_iload dL_law_771 rfl ?_
      refine zr_icmp_eq (tgt := 778) dL_law_773 (by decide) (fun c_773 => ?_) (fun c_773 => absurd (by decide) c_773)
      refine zr_iload dL_law_778 rfl ?_
      refine zr_if_ne (tgt := 795) dL_law_780 (by decide) (fun c_780 => ?_) (fun c_780 => absurd c_780 (by decide))
      refine zr_goto (tgt := 2861) dL_law_795 (by decide) ?_
      exact zr_less (by omega) (by omega) (kk u _ _ _ _ hI F3 ko2)
    · skip
      rcases List.mem_cons.mp hk with ek | hk
      · cases ek
        refine zr_callH (rest := []) dL_law_750 vL_204 (wN2_handleBegin hX hc hx) (by omega) (by omega) (by omega) rfl rfl (Nat.le_of_ble_eq_true rfl) rfl (fun v2 s1 h_ => ?_) (fun E1 s1 h_ => by obtain ⟨r, e, -⟩ := h_; cases e)
        obtain ⟨r, e, e2, hq⟩ := h_
        cases e
        rw [e2]
        have F0 := (hr _ hq).1
        have hy0 := zFr.get F0 (by unfold zXr; omega) hyo
        obtain ⟨d2, d29, hr2⟩ := (hr _ hq).2 s1 zFr.rf
        have hy := hy0
        have F1 : zFr σ s1 (fun q => x ≤ q ∧ q < x + 274) := F0.w (fun q hq => by unfold zXr at hq; omega)
        have ko := zFr.get F0 (by unfold zXr; omega) ho
        refine zr_istore (ls' := [some (.ref ((zQ X 37))), some (.ref x), some (.ref ((x + 261))), some (.ref ((x + 273))), some (.ref ((x + 274))), some (.int (nI i)), some (.int 2), l7, l8]) dL_law_753 (by decide) rfl ?_
        refine zr_aload_n dL_law_755 rfl ?_
        refine zr_aload_n dL_law_756 rfl ?_
        refine zr_iload dL_law_757 rfl ?_
        refine zr_iconst (v := 1) dL_law_759 (by decide) ?_
        refine zr_iadd dL_law_760 ?_
        refine zr_eqi (x' := nI (i + 1)) (nI_add i 1) ?_
        refine zr_sat dL_law_761 (vp_in_nI (n := i + 1) (by omega) (by omega)) ?_
        rw [nI_clamp (n := i + 1) (by omega)]
        refine zr_callVi (rest := []) dL_law_762 vL_206 hr2 hy (by omega) (by omega) (by omega) rfl rfl (Nat.le_of_ble_eq_true rfl) (by decide) rfl (fun r3 u h3 => ?_)
        obtain ⟨er, F2, hI⟩ := h3
        have F3 : zFr σ u (fun q => x ≤ q ∧ q < x + 274) := zFr.tr F1 F2 (fun q hq => by unfold zMr at hq; omega)
        have ko2 := zFr.get F2 (by unfold zMr; omega) ko
        obtain ⟨F8, h8, e8⟩ := hI.oy
        refine zr_istore (ls' := [some (.ref ((zQ X 37))), some (.ref x), some (.ref ((x + 261))), some (.ref ((x + 273))), some (.ref ((x + 274))), some (.int (nI i)), some (.int 2), some (.int r3), l8]) dL_law_765 (by decide) rfl ?_
        refine zr_aload_n dL_law_767 rfl ?_
        refine zr_pVi (rest := []) dL_law_768 vL_173 (qX10_thrown hX h8) h8 (by omega) (by omega) (by omega) rfl rfl (Nat.le_of_ble_eq_true rfl) (by decide) rfl ?_
        refine zr_eqi (x' := 2) e8 ?_
        refine zr_iload dL_law_771 rfl ?_
        refine zr_icmp_eq (tgt := 778) dL_law_773 (by decide) (fun c_773 => ?_) (fun c_773 => absurd (by decide) c_773)
        refine zr_iload dL_law_778 rfl ?_
        refine zr_if_ne (tgt := 795) dL_law_780 (by decide) (fun c_780 => ?_) (fun c_780 => absurd c_780 (by decide))
        refine zr_goto (tgt := 2861) dL_law_795 (by decide) ?_
        exact zr_less (by omega) (by omega) (kk u _ _ _ _ hI F3 ko2)
      · skip
        cases hk

set_option maxHeartbeats 400000 in
set_option maxRecDepth 100000 in
theorem blk_handleEnd {X : zX} (hX : X.1.stackTraces = false) {Q : zO → zS → Prop} {σ : zS} {x i bc bs : Nat} {l6 l7 l8 : Option Value} {f : Nat → Int64} (hQ : ∀ i j : Nat, i < 7 → j < 7 → zQ X i = zQ X j → i = j) (hi : i + 4 ≤ zsL X) (hs : zsL X < 2 ^ 31) (hI0 : zIv x (x + 261) 0 σ ∨ ∃ cd, zIv x (x + 261) cd σ) (hN : σ.2 = none) (ho : σ.1 (x + 273) = .inl (3, 1, .inr (.inl f))) (kk : ∀ (s : zS) (cd : Int32) (f2 : Nat → Int64) (m6 m7 : Option Value), zIv x (x + 261) cd s → zFr σ s (fun q => x ≤ q ∧ q < x + 274) → s.1 (x + 273) = .inl (3, 1, .inr (.inl f2)) → zW X mL_law 12 bc bs Q 2861 [some (.ref (zQ X 37)), some (.ref x), some (.ref (x + 261)), some (.ref (x + 273)), some (.ref (x + 274)), some (.int (nI i)), m6, m7, l8] [] s) : zW X mL_law 12 (bc + 1) (bs + 6) Q 798 [some (.ref (zQ X 37)), some (.ref x), some (.ref (x + 261)), some (.ref (x + 273)), some (.ref (x + 274)), some (.int (nI i)), l6, l7, l8] [] σ := by
  have hs2 : zsL X = X.2.2.2.2.2.1 := rfl
  obtain ⟨cd, hI⟩ : ∃ cd, zIv x (x + 261) cd σ := hI0.elim (fun h => ⟨_, h⟩) id
  obtain ⟨fs, hx⟩ := hI.ox
  obtain ⟨Fo, hyo, -⟩ := hI.oy
  obtain ⟨⟨A, S, m, U, n, T, ll, ln, hs1, kf, ld, dt, dc⟩, hK, hM, hL⟩ := hI
  refine zr_aload_n dL_law_798 rfl ?_
  refine zr_aload_n dL_law_799 rfl ?_
  refine zr_iload dL_law_800 rfl ?_
  refine zr_iconst (v := 1) dL_law_802 (by decide) ?_
  refine zr_iadd dL_law_803 ?_
  refine zr_eqi (x' := nI (i + 1)) (nI_add i 1) ?_
  refine zr_sat dL_law_804 (vp_in_nI (n := i + 1) (by omega) (by omega)) ?_
  rw [nI_clamp (n := i + 1) (by omega)]
  refine zr_aload_n dL_law_805 rfl ?_
  have hsm := sem_handleEnd hX hK hM hL hN hQ (X.2.2.2.2.2.2 (i + 1))
  rcases hsm with ⟨v, d1, mc, ms, Qs, d9, m1, m6, hc, hr⟩ | ⟨E, k, d1, mc, ms, Qs, hk, d9, m1, m6, hc, hr⟩
  · refine zr_callH (rest := []) dL_law_806 vL_207 (wOK_handleEnd hX hc hx (fun s2 hq => zFr.get (hr s2 hq).1 (by unfold zXr; omega) ho)) (by omega) (by omega) (by omega) rfl rfl (Nat.le_of_ble_eq_true rfl) rfl (fun v2 s1 h_ => ?_) (fun E1 s1 h_ => by obtain ⟨r, e, -⟩ := h_; cases e)
    obtain ⟨r, e, e2, s2, hq, et⟩ := h_
    cases e
    rw [e2]
    have F0 := (hr _ hq).1
    have hy0 := zFr.get F0 (by unfold zXr; omega) hyo
    have Ft : zFr s2 s1 (zOu x) := by rw [et]; exact ⟨rfl, fun a ha => zup_ne _ _ (fun z => ha (by unfold zOu; omega))⟩
    obtain ⟨d2, d29, hr2⟩ := (hr _ hq).2 s1 Ft
    have hy := zFr.get Ft (by unfold zOu; omega) hy0
    have F1 : zFr σ s1 (fun q => x ≤ q ∧ q < x + 274) := zFr.tr (F0.w (fun q hq => by unfold zXr at hq; omega)) (P := fun q => x ≤ q ∧ q < x + 274) (show zFr s2 s1 (fun q => x ≤ q ∧ q < x + 274) from by rw [et]; exact ⟨rfl, fun a ha => zup_ne _ _ (fun z => ha (by omega))⟩) (fun q hq => hq)
    have ko : s1.1 (x + 273) = .inl (3, 1, .inr (.inl (vp_updL f 0 v.toInt64))) := by rw [et]; exact zup_at _ _ _
    refine zr_istore (ls' := [some (.ref ((zQ X 37))), some (.ref x), some (.ref ((x + 261))), some (.ref ((x + 273))), some (.ref ((x + 274))), some (.int (nI i)), some (.int 0), l7, l8]) dL_law_809 (by decide) rfl ?_
    refine zr_aload_n dL_law_811 rfl ?_
    refine zr_aload_n dL_law_812 rfl ?_
    refine zr_iload dL_law_813 rfl ?_
    refine zr_iconst (v := 1) dL_law_815 (by decide) ?_
    refine zr_iadd dL_law_816 ?_
    refine zr_eqi (x' := nI (i + 1)) (nI_add i 1) ?_
    refine zr_sat dL_law_817 (vp_in_nI (n := i + 1) (by omega) (by omega)) ?_
    rw [nI_clamp (n := i + 1) (by omega)]
    refine zr_callVi (rest := []) dL_law_818 vL_209 hr2 hy (by omega) (by omega) (by omega) rfl rfl (Nat.le_of_ble_eq_true rfl) (by decide) rfl (fun r3 u h3 => ?_)
    obtain ⟨er, F2, hI⟩ := h3
    rw [er]
    have F3 : zFr σ u (fun q => x ≤ q ∧ q < x + 274) := zFr.tr F1 F2 (fun q hq => by unfold zMr at hq; omega)
    have ko2 := zFr.get F2 (by unfold zMr; omega) ko
    obtain ⟨F8, h8, e8⟩ := hI.oy
    refine zr_istore (ls' := [some (.ref ((zQ X 37))), some (.ref x), some (.ref ((x + 261))), some (.ref ((x + 273))), some (.ref ((x + 274))), some (.int (nI i)), some (.int 0), some (.int v), l8]) dL_law_821 (by decide) rfl ?_
    refine zr_aload_n dL_law_823 rfl ?_
    refine zr_pVi (rest := []) dL_law_824 vL_173 (qX10_thrown hX h8) h8 (by omega) (by omega) (by omega) rfl rfl (Nat.le_of_ble_eq_true rfl) (by decide) rfl ?_
    refine zr_eqi (x' := 0) e8 ?_
    refine zr_iload dL_law_827 rfl ?_
    refine zr_icmp_eq (tgt := 834) dL_law_829 (by decide) (fun c_829 => ?_) (fun c_829 => absurd (by decide) c_829)
    refine zr_iload dL_law_834 rfl ?_
    refine zr_if_ne (tgt := 851) dL_law_836 (by decide) (fun c_836 => absurd (by decide) c_836) (fun c_836 => ?_)
    refine zr_aload_n dL_law_839 rfl ?_
    refine zr_iconst (v := 0) dL_law_840 (by decide) ?_
    refine zr_laload dL_law_841 ko2 (vp_in_nI (n := 0) (by omega) (by omega)) ?_
    rw [show (0 : Int32).toNatClampNeg = 0 from by decide]
    refine zr_eql (x' := v.toInt64) (by unfold vp_updL; rw [if_pos rfl]) ?_
    refine zr_iload dL_law_842 rfl ?_
    refine zr_i2l dL_law_844 ?_
    refine zr_lcmp dL_law_845 ?_
    refine zr_eqi (x' := 0) (lcmp_self _) ?_
    refine zr_if_eq (tgt := 851) dL_law_846 (by decide) (fun c_846 => ?_) (fun c_846 => absurd (by decide) c_846)
    refine zr_goto (tgt := 2861) dL_law_851 (by decide) ?_
    exact zr_less (by omega) (by omega) (kk u _ _ _ _ hI F3 ko2)
  · skip
    rcases List.mem_cons.mp hk with ek | hk
    · cases ek
      refine zr_callH (rest := []) dL_law_806 vL_207 (wN1_handleEnd hX hc hx) (by omega) (by omega) (by omega) rfl rfl (Nat.le_of_ble_eq_true rfl) rfl (fun v2 s1 h_ => ?_) (fun E1 s1 h_ => by obtain ⟨r, e, -⟩ := h_; cases e)
      obtain ⟨r, e, e2, hq⟩ := h_
      cases e
      rw [e2]
      have F0 := (hr _ hq).1
      have hy0 := zFr.get F0 (by unfold zXr; omega) hyo
      obtain ⟨d2, d29, hr2⟩ := (hr _ hq).2 s1 zFr.rf
      have hy := hy0
      have F1 : zFr σ s1 (fun q => x ≤ q ∧ q < x + 274) := F0.w (fun q hq => by unfold zXr at hq; omega)
      have ko := zFr.get F0 (by unfold zXr; omega) ho
      refine zr_istore (ls' := [some (.ref ((zQ X 37))), some (.ref x), some (.ref ((x + 261))), some (.ref ((x + 273))), some (.ref ((x + 274))), some (.int (nI i)), some (.int 1), l7, l8]) dL_law_809 (by decide) rfl ?_
      refine zr_aload_n dL_law_811 rfl ?_
      refine zr_aload_n dL_law_812 rfl ?_
      refine zr_iload dL_law_813 rfl ?_
      refine zr_iconst (v := 1) dL_law_815 (by decide) ?_
      refine zr_iadd dL_law_816 ?_
      refine zr_eqi (x' := nI (i + 1)) (nI_add i 1) ?_
      refine zr_sat dL_law_817 (vp_in_nI (n := i + 1) (by omega) (by omega)) ?_
      rw [nI_clamp (n := i + 1) (by omega)]
      refine zr_callVi (rest := []) dL_law_818 vL_209 hr2 hy (by omega) (by omega) (by omega) rfl rfl (Nat.le_of_ble_eq_true rfl) (by decide) rfl (fun r3 u h3 => ?_)
      obtain ⟨er, F2, hI⟩ := h3
      have F3 : zFr σ u (fun q => x ≤ q ∧ q < x + 274) := zFr.tr F1 F2 (fun q hq => by unfold zMr at hq; omega)
      have ko2 := zFr.get F2 (by unfold zMr; omega) ko
      obtain ⟨F8, h8, e8⟩ := hI.oy
      refine zr_istore (ls' := [some (.ref ((zQ X 37))), some (.ref x), some (.ref ((x + 261))), some (.ref ((x + 273))), some (.ref ((x + 274))), some (.int (nI i)), some (.int 1), some (.int r3), l8]) dL_law_821 (by decide) rfl ?_
      refine zr_aload_n dL_law_823 rfl ?_
      refine zr_pVi (rest := []) dL_law_824 vL_173 (qX10_thrown hX h8) h8 (by omega) (by omega) (by omega) rfl rfl (Nat.le_of_ble_eq_true rfl) (by decide) rfl ?_
      refine zr_eqi (x' := 1) e8 ?_
      refine zr_iload dL_law_827 rfl ?_
      refine zr_icmp_eq (tgt := 834) dL_law_829 (by decide) (fun c_829 => ?_) (fun c_829 => absurd (by decide) c_829)
      refine zr_iload dL_law_834 rfl ?_
      refine zr_if_ne (tgt := 851) dL_law_836 (by decide) (fun c_836 => ?_) (fun c_836 => absurd c_836 (by decide))
      refine zr_goto (tgt := 2861) dL_law_851 (by decide) ?_
      exact zr_less (by omega) (by omega) (kk u _ _ _ _ hI F3 ko2)
    · skip
      rcases List.mem_cons.mp hk with ek | hk
      · cases ek
        refine zr_callH (rest := []) dL_law_806 vL_207 (wN2_handleEnd hX hc hx) (by omega) (by omega) (by omega) rfl rfl (Nat.le_of_ble_eq_true rfl) rfl (fun v2 s1 h_ => ?_) (fun E1 s1 h_ => by obtain ⟨r, e, -⟩ := h_; cases e)
        obtain ⟨r, e, e2, hq⟩ := h_
        cases e
        rw [e2]
        have F0 := (hr _ hq).1
        have hy0 := zFr.get F0 (by unfold zXr; omega) hyo
        obtain ⟨d2, d29, hr2⟩ := (hr _ hq).2 s1 zFr.rf
        have hy := hy0
        have F1 : zFr σ s1 (fun q => x ≤ q ∧ q < x + 274) := F0.w (fun q hq => by unfold zXr at hq; omega)
        have ko := zFr.get F0 (by unfold zXr; omega) ho
        refine zr_istore (ls' := [some (.ref ((zQ X 37))), some (.ref x), some (.ref ((x + 261))), some (.ref ((x + 273))), some (.ref ((x + 274))), some (.int (nI i)), some (.int 2), l7, l8]) dL_law_809 (by decide) rfl ?_
        refine zr_aload_n dL_law_811 rfl ?_
        refine zr_aload_n dL_law_812 rfl ?_
        refine zr_iload dL_law_813 rfl ?_
        refine zr_iconst (v := 1) dL_law_815 (by decide) ?_
        refine zr_iadd dL_law_816 ?_
        refine zr_eqi (x' := nI (i + 1)) (nI_add i 1) ?_
        refine zr_sat dL_law_817 (vp_in_nI (n := i + 1) (by omega) (by omega)) ?_
        rw [nI_clamp (n := i + 1) (by omega)]
        refine zr_callVi (rest := []) dL_law_818 vL_209 hr2 hy (by omega) (by omega) (by omega) rfl rfl (Nat.le_of_ble_eq_true rfl) (by decide) rfl (fun r3 u h3 => ?_)
        obtain ⟨er, F2, hI⟩ := h3
        have F3 : zFr σ u (fun q => x ≤ q ∧ q < x + 274) := zFr.tr F1 F2 (fun q hq => by unfold zMr at hq; omega)
        have ko2 := zFr.get F2 (by unfold zMr; omega) ko
        obtain ⟨F8, h8, e8⟩ := hI.oy
        refine zr_istore (ls' := [some (.ref ((zQ X 37))), some (.ref x), some (.ref ((x + 261))), some (.ref ((x + 273))), some (.ref ((x + 274))), some (.int (nI i)), some (.int 2), some (.int r3), l8]) dL_law_821 (by decide) rfl ?_
        refine zr_aload_n dL_law_823 rfl ?_
        refine zr_pVi (rest := []) dL_law_824 vL_173 (qX10_thrown hX h8) h8 (by omega) (by omega) (by omega) rfl rfl (Nat.le_of_ble_eq_true rfl) (by decide) rfl ?_
        refine zr_eqi (x' := 2) e8 ?_
        refine zr_iload dL_law_827 rfl ?_
        refine zr_icmp_eq (tgt := 834) dL_law_829 (by decide) (fun c_829 => ?_) (fun c_829 => absurd (by decide) c_829)
        refine zr_iload dL_law_834 rfl ?_
        refine zr_if_ne (tgt := 851) dL_law_836 (by decide) (fun c_836 => ?_) (fun c_836 => absurd c_836 (by decide))
        refine zr_goto (tgt := 2861) dL_law_851 (by decide) ?_
        exact zr_less (by omega) (by omega) (kk u _ _ _ _ hI F3 ko2)
      · skip
        cases hk

set_option maxHeartbeats 400000 in
set_option maxRecDepth 100000 in
theorem blk_relaxedLength {X : zX} (hX : X.1.stackTraces = false) {Q : zO → zS → Prop} {σ : zS} {x i bc bs : Nat} {l6 l7 l8 : Option Value} {f : Nat → Int64} (hQ : ∀ i j : Nat, i < 7 → j < 7 → zQ X i = zQ X j → i = j) (hi : i + 4 ≤ zsL X) (hs : zsL X < 2 ^ 31) (hI0 : zIv x (x + 261) 0 σ ∨ ∃ cd, zIv x (x + 261) cd σ) (hN : σ.2 = none) (ho : σ.1 (x + 273) = .inl (3, 1, .inr (.inl f))) (kk : ∀ (s : zS) (cd : Int32) (f2 : Nat → Int64) (m6 m7 : Option Value), zIv x (x + 261) cd s → zFr σ s (fun q => x ≤ q ∧ q < x + 274) → s.1 (x + 273) = .inl (3, 1, .inr (.inl f2)) → zW X mL_law 12 bc bs Q 2861 [some (.ref (zQ X 37)), some (.ref x), some (.ref (x + 261)), some (.ref (x + 273)), some (.ref (x + 274)), some (.int (nI i)), m6, m7, l8] [] s) : zW X mL_law 12 (bc + 1) (bs + 6) Q 854 [some (.ref (zQ X 37)), some (.ref x), some (.ref (x + 261)), some (.ref (x + 273)), some (.ref (x + 274)), some (.int (nI i)), l6, l7, l8] [] σ := by
  have hs2 : zsL X = X.2.2.2.2.2.1 := rfl
  obtain ⟨cd, hI⟩ : ∃ cd, zIv x (x + 261) cd σ := hI0.elim (fun h => ⟨_, h⟩) id
  obtain ⟨fs, hx⟩ := hI.ox
  obtain ⟨Fo, hyo, -⟩ := hI.oy
  obtain ⟨⟨A, S, m, U, n, T, ll, ln, hs1, kf, ld, dt, dc⟩, hK, hM, hL⟩ := hI
  refine zr_aload_n dL_law_854 rfl ?_
  refine zr_aload_n dL_law_855 rfl ?_
  refine zr_iload dL_law_856 rfl ?_
  refine zr_iconst (v := 1) dL_law_858 (by decide) ?_
  refine zr_iadd dL_law_859 ?_
  refine zr_eqi (x' := nI (i + 1)) (nI_add i 1) ?_
  refine zr_sat dL_law_860 (vp_in_nI (n := i + 1) (by omega) (by omega)) ?_
  rw [nI_clamp (n := i + 1) (by omega)]
  refine zr_aload_n dL_law_861 rfl ?_
  have hsm := sem_relaxedLength hX hK hM hL hN hQ (X.2.2.2.2.2.2 (i + 1))
  rcases hsm with ⟨v, d1, mc, ms, Qs, d9, m1, m6, hc, hr⟩ | ⟨E, k, d1, mc, ms, Qs, hk, d9, m1, m6, hc, hr⟩
  · refine zr_callH (rest := []) dL_law_862 vL_210 (wOK_relaxedLength hX hc hx (fun s2 hq => zFr.get (hr s2 hq).1 (by unfold zXr; omega) ho)) (by omega) (by omega) (by omega) rfl rfl (Nat.le_of_ble_eq_true rfl) rfl (fun v2 s1 h_ => ?_) (fun E1 s1 h_ => by obtain ⟨r, e, -⟩ := h_; cases e)
    obtain ⟨r, e, e2, s2, hq, et⟩ := h_
    cases e
    rw [e2]
    have F0 := (hr _ hq).1
    have hy0 := zFr.get F0 (by unfold zXr; omega) hyo
    have Ft : zFr s2 s1 (zOu x) := by rw [et]; exact ⟨rfl, fun a ha => zup_ne _ _ (fun z => ha (by unfold zOu; omega))⟩
    obtain ⟨d2, d29, hr2⟩ := (hr _ hq).2 s1 Ft
    have hy := zFr.get Ft (by unfold zOu; omega) hy0
    have F1 : zFr σ s1 (fun q => x ≤ q ∧ q < x + 274) := zFr.tr (F0.w (fun q hq => by unfold zXr at hq; omega)) (P := fun q => x ≤ q ∧ q < x + 274) (show zFr s2 s1 (fun q => x ≤ q ∧ q < x + 274) from by rw [et]; exact ⟨rfl, fun a ha => zup_ne _ _ (fun z => ha (by omega))⟩) (fun q hq => hq)
    have ko : s1.1 (x + 273) = .inl (3, 1, .inr (.inl (vp_updL f 0 v.toInt64))) := by rw [et]; exact zup_at _ _ _
    refine zr_istore (ls' := [some (.ref ((zQ X 37))), some (.ref x), some (.ref ((x + 261))), some (.ref ((x + 273))), some (.ref ((x + 274))), some (.int (nI i)), some (.int 0), l7, l8]) dL_law_865 (by decide) rfl ?_
    refine zr_aload_n dL_law_867 rfl ?_
    refine zr_aload_n dL_law_868 rfl ?_
    refine zr_iload dL_law_869 rfl ?_
    refine zr_iconst (v := 1) dL_law_871 (by decide) ?_
    refine zr_iadd dL_law_872 ?_
    refine zr_eqi (x' := nI (i + 1)) (nI_add i 1) ?_
    refine zr_sat dL_law_873 (vp_in_nI (n := i + 1) (by omega) (by omega)) ?_
    rw [nI_clamp (n := i + 1) (by omega)]
    refine zr_callVi (rest := []) dL_law_874 vL_212 hr2 hy (by omega) (by omega) (by omega) rfl rfl (Nat.le_of_ble_eq_true rfl) (by decide) rfl (fun r3 u h3 => ?_)
    obtain ⟨er, F2, hI⟩ := h3
    rw [er]
    have F3 : zFr σ u (fun q => x ≤ q ∧ q < x + 274) := zFr.tr F1 F2 (fun q hq => by unfold zMr at hq; omega)
    have ko2 := zFr.get F2 (by unfold zMr; omega) ko
    obtain ⟨F8, h8, e8⟩ := hI.oy
    refine zr_istore (ls' := [some (.ref ((zQ X 37))), some (.ref x), some (.ref ((x + 261))), some (.ref ((x + 273))), some (.ref ((x + 274))), some (.int (nI i)), some (.int 0), some (.int v), l8]) dL_law_877 (by decide) rfl ?_
    refine zr_aload_n dL_law_879 rfl ?_
    refine zr_pVi (rest := []) dL_law_880 vL_173 (qX10_thrown hX h8) h8 (by omega) (by omega) (by omega) rfl rfl (Nat.le_of_ble_eq_true rfl) (by decide) rfl ?_
    refine zr_eqi (x' := 0) e8 ?_
    refine zr_iload dL_law_883 rfl ?_
    refine zr_icmp_eq (tgt := 890) dL_law_885 (by decide) (fun c_885 => ?_) (fun c_885 => absurd (by decide) c_885)
    refine zr_iload dL_law_890 rfl ?_
    refine zr_if_ne (tgt := 907) dL_law_892 (by decide) (fun c_892 => absurd (by decide) c_892) (fun c_892 => ?_)
    refine zr_aload_n dL_law_895 rfl ?_
    refine zr_iconst (v := 0) dL_law_896 (by decide) ?_
    refine zr_laload dL_law_897 ko2 (vp_in_nI (n := 0) (by omega) (by omega)) ?_
    rw [show (0 : Int32).toNatClampNeg = 0 from by decide]
    refine zr_eql (x' := v.toInt64) (by unfold vp_updL; rw [if_pos rfl]) ?_
    refine zr_iload dL_law_898 rfl ?_
    refine zr_i2l dL_law_900 ?_
    refine zr_lcmp dL_law_901 ?_
    refine zr_eqi (x' := 0) (lcmp_self _) ?_
    refine zr_if_eq (tgt := 907) dL_law_902 (by decide) (fun c_902 => ?_) (fun c_902 => absurd (by decide) c_902)
    refine zr_goto (tgt := 2861) dL_law_907 (by decide) ?_
    exact zr_less (by omega) (by omega) (kk u _ _ _ _ hI F3 ko2)
  · skip
    rcases List.mem_cons.mp hk with ek | hk
    · cases ek
      refine zr_callH (rest := []) dL_law_862 vL_210 (wN1_relaxedLength hX hc hx) (by omega) (by omega) (by omega) rfl rfl (Nat.le_of_ble_eq_true rfl) rfl (fun v2 s1 h_ => ?_) (fun E1 s1 h_ => by obtain ⟨r, e, -⟩ := h_; cases e)
      obtain ⟨r, e, e2, hq⟩ := h_
      cases e
      rw [e2]
      have F0 := (hr _ hq).1
      have hy0 := zFr.get F0 (by unfold zXr; omega) hyo
      obtain ⟨d2, d29, hr2⟩ := (hr _ hq).2 s1 zFr.rf
      have hy := hy0
      have F1 : zFr σ s1 (fun q => x ≤ q ∧ q < x + 274) := F0.w (fun q hq => by unfold zXr at hq; omega)
      have ko := zFr.get F0 (by unfold zXr; omega) ho
      refine zr_istore (ls' := [some (.ref ((zQ X 37))), some (.ref x), some (.ref ((x + 261))), some (.ref ((x + 273))), some (.ref ((x + 274))), some (.int (nI i)), some (.int 1), l7, l8]) dL_law_865 (by decide) rfl ?_
      refine zr_aload_n dL_law_867 rfl ?_
      refine zr_aload_n dL_law_868 rfl ?_
      refine zr_iload dL_law_869 rfl ?_
      refine zr_iconst (v := 1) dL_law_871 (by decide) ?_
      refine zr_iadd dL_law_872 ?_
      refine zr_eqi (x' := nI (i + 1)) (nI_add i 1) ?_
      refine zr_sat dL_law_873 (vp_in_nI (n := i + 1) (by omega) (by omega)) ?_
      rw [nI_clamp (n := i + 1) (by omega)]
      refine zr_callVi (rest := []) dL_law_874 vL_212 hr2 hy (by omega) (by omega) (by omega) rfl rfl (Nat.le_of_ble_eq_true rfl) (by decide) rfl (fun r3 u h3 => ?_)
      obtain ⟨er, F2, hI⟩ := h3
      have F3 : zFr σ u (fun q => x ≤ q ∧ q < x + 274) := zFr.tr F1 F2 (fun q hq => by unfold zMr at hq; omega)
      have ko2 := zFr.get F2 (by unfold zMr; omega) ko
      obtain ⟨F8, h8, e8⟩ := hI.oy
      refine zr_istore (ls' := [some (.ref ((zQ X 37))), some (.ref x), some (.ref ((x + 261))), some (.ref ((x + 273))), some (.ref ((x + 274))), some (.int (nI i)), some (.int 1), some (.int r3), l8]) dL_law_877 (by decide) rfl ?_
      refine zr_aload_n dL_law_879 rfl ?_
      refine zr_pVi (rest := []) dL_law_880 vL_173 (qX10_thrown hX h8) h8 (by omega) (by omega) (by omega) rfl rfl (Nat.le_of_ble_eq_true rfl) (by decide) rfl ?_
      refine zr_eqi (x' := 1) e8 ?_
      refine zr_iload dL_law_883 rfl ?_
      refine zr_icmp_eq (tgt := 890) dL_law_885 (by decide) (fun c_885 => ?_) (fun c_885 => absurd (by decide) c_885)
      refine zr_iload dL_law_890 rfl ?_
      refine zr_if_ne (tgt := 907) dL_law_892 (by decide) (fun c_892 => ?_) (fun c_892 => absurd c_892 (by decide))
      refine zr_goto (tgt := 2861) dL_law_907 (by decide) ?_
      exact zr_less (by omega) (by omega) (kk u _ _ _ _ hI F3 ko2)
    · skip
      rcases List.mem_cons.mp hk with ek | hk
      · cases ek
        refine zr_callH (rest := []) dL_law_862 vL_210 (wN2_relaxedLength hX hc hx) (by omega) (by omega) (by omega) rfl rfl (Nat.le_of_ble_eq_true rfl) rfl (fun v2 s1 h_ => ?_) (fun E1 s1 h_ => by obtain ⟨r, e, -⟩ := h_; cases e)
        obtain ⟨r, e, e2, hq⟩ := h_
        cases e
        rw [e2]
        have F0 := (hr _ hq).1
        have hy0 := zFr.get F0 (by unfold zXr; omega) hyo
        obtain ⟨d2, d29, hr2⟩ := (hr _ hq).2 s1 zFr.rf
        have hy := hy0
        have F1 : zFr σ s1 (fun q => x ≤ q ∧ q < x + 274) := F0.w (fun q hq => by unfold zXr at hq; omega)
        have ko := zFr.get F0 (by unfold zXr; omega) ho
        refine zr_istore (ls' := [some (.ref ((zQ X 37))), some (.ref x), some (.ref ((x + 261))), some (.ref ((x + 273))), some (.ref ((x + 274))), some (.int (nI i)), some (.int 2), l7, l8]) dL_law_865 (by decide) rfl ?_
        refine zr_aload_n dL_law_867 rfl ?_
        refine zr_aload_n dL_law_868 rfl ?_
        refine zr_iload dL_law_869 rfl ?_
        refine zr_iconst (v := 1) dL_law_871 (by decide) ?_
        refine zr_iadd dL_law_872 ?_
        refine zr_eqi (x' := nI (i + 1)) (nI_add i 1) ?_
        refine zr_sat dL_law_873 (vp_in_nI (n := i + 1) (by omega) (by omega)) ?_
        rw [nI_clamp (n := i + 1) (by omega)]
        refine zr_callVi (rest := []) dL_law_874 vL_212 hr2 hy (by omega) (by omega) (by omega) rfl rfl (Nat.le_of_ble_eq_true rfl) (by decide) rfl (fun r3 u h3 => ?_)
        obtain ⟨er, F2, hI⟩ := h3
        have F3 : zFr σ u (fun q => x ≤ q ∧ q < x + 274) := zFr.tr F1 F2 (fun q hq => by unfold zMr at hq; omega)
        have ko2 := zFr.get F2 (by unfold zMr; omega) ko
        obtain ⟨F8, h8, e8⟩ := hI.oy
        refine zr_istore (ls' := [some (.ref ((zQ X 37))), some (.ref x), some (.ref ((x + 261))), some (.ref ((x + 273))), some (.ref ((x + 274))), some (.int (nI i)), some (.int 2), some (.int r3), l8]) dL_law_877 (by decide) rfl ?_
        refine zr_aload_n dL_law_879 rfl ?_
        refine zr_pVi (rest := []) dL_law_880 vL_173 (qX10_thrown hX h8) h8 (by omega) (by omega) (by omega) rfl rfl (Nat.le_of_ble_eq_true rfl) (by decide) rfl ?_
        refine zr_eqi (x' := 2) e8 ?_
        refine zr_iload dL_law_883 rfl ?_
        refine zr_icmp_eq (tgt := 890) dL_law_885 (by decide) (fun c_885 => ?_) (fun c_885 => absurd (by decide) c_885)
        refine zr_iload dL_law_890 rfl ?_
        refine zr_if_ne (tgt := 907) dL_law_892 (by decide) (fun c_892 => ?_) (fun c_892 => absurd c_892 (by decide))
        refine zr_goto (tgt := 2861) dL_law_907 (by decide) ?_
        exact zr_less (by omega) (by omega) (kk u _ _ _ _ hI F3 ko2)
      · skip
        cases hk

set_option maxHeartbeats 400000 in
set_option maxRecDepth 100000 in
theorem blk_writhe {X : zX} (hX : X.1.stackTraces = false) {Q : zO → zS → Prop} {σ : zS} {x i bc bs : Nat} {l6 l7 l8 : Option Value} {f : Nat → Int64} (hQ : ∀ i j : Nat, i < 7 → j < 7 → zQ X i = zQ X j → i = j) (hi : i + 4 ≤ zsL X) (hs : zsL X < 2 ^ 31) (hI0 : zIv x (x + 261) 0 σ ∨ ∃ cd, zIv x (x + 261) cd σ) (hN : σ.2 = none) (ho : σ.1 (x + 273) = .inl (3, 1, .inr (.inl f))) (kk : ∀ (s : zS) (cd : Int32) (f2 : Nat → Int64) (m6 m7 : Option Value), zIv x (x + 261) cd s → zFr σ s (fun q => x ≤ q ∧ q < x + 274) → s.1 (x + 273) = .inl (3, 1, .inr (.inl f2)) → zW X mL_law 12 bc bs Q 2861 [some (.ref (zQ X 37)), some (.ref x), some (.ref (x + 261)), some (.ref (x + 273)), some (.ref (x + 274)), some (.int (nI i)), m6, m7, l8] [] s) : zW X mL_law 12 (bc + 1) (bs + 6) Q 910 [some (.ref (zQ X 37)), some (.ref x), some (.ref (x + 261)), some (.ref (x + 273)), some (.ref (x + 274)), some (.int (nI i)), l6, l7, l8] [] σ := by
  have hs2 : zsL X = X.2.2.2.2.2.1 := rfl
  obtain ⟨cd, hI⟩ : ∃ cd, zIv x (x + 261) cd σ := hI0.elim (fun h => ⟨_, h⟩) id
  obtain ⟨fs, hx⟩ := hI.ox
  obtain ⟨Fo, hyo, -⟩ := hI.oy
  obtain ⟨⟨A, S, m, U, n, T, ll, ln, hs1, kf, ld, dt, dc⟩, hK, hM, hL⟩ := hI
  refine zr_aload_n dL_law_910 rfl ?_
  refine zr_aload_n dL_law_911 rfl ?_
  refine zr_iload dL_law_912 rfl ?_
  refine zr_iconst (v := 1) dL_law_914 (by decide) ?_
  refine zr_iadd dL_law_915 ?_
  refine zr_eqi (x' := nI (i + 1)) (nI_add i 1) ?_
  refine zr_sat dL_law_916 (vp_in_nI (n := i + 1) (by omega) (by omega)) ?_
  rw [nI_clamp (n := i + 1) (by omega)]
  refine zr_aload_n dL_law_917 rfl ?_
  have hsm := sem_writhe hX hK hM hL hN hQ (X.2.2.2.2.2.2 (i + 1))
  rcases hsm with ⟨v, d1, mc, ms, Qs, d9, m1, m6, hc, hr⟩ | ⟨E, k, d1, mc, ms, Qs, hk, d9, m1, m6, hc, hr⟩
  · refine zr_callH (rest := []) dL_law_918 vL_213 (wOK_writhe hX hc hx (fun s2 hq => zFr.get (hr s2 hq).1 (by unfold zXr; omega) ho)) (by omega) (by omega) (by omega) rfl rfl (Nat.le_of_ble_eq_true rfl) rfl (fun v2 s1 h_ => ?_) (fun E1 s1 h_ => by obtain ⟨r, e, -⟩ := h_; cases e)
    obtain ⟨r, e, e2, s2, hq, et⟩ := h_
    cases e
    rw [e2]
    have F0 := (hr _ hq).1
    have hy0 := zFr.get F0 (by unfold zXr; omega) hyo
    have Ft : zFr s2 s1 (zOu x) := by rw [et]; exact ⟨rfl, fun a ha => zup_ne _ _ (fun z => ha (by unfold zOu; omega))⟩
    obtain ⟨d2, d29, hr2⟩ := (hr _ hq).2 s1 Ft
    have hy := zFr.get Ft (by unfold zOu; omega) hy0
    have F1 : zFr σ s1 (fun q => x ≤ q ∧ q < x + 274) := zFr.tr (F0.w (fun q hq => by unfold zXr at hq; omega)) (P := fun q => x ≤ q ∧ q < x + 274) (show zFr s2 s1 (fun q => x ≤ q ∧ q < x + 274) from by rw [et]; exact ⟨rfl, fun a ha => zup_ne _ _ (fun z => ha (by omega))⟩) (fun q hq => hq)
    have ko : s1.1 (x + 273) = .inl (3, 1, .inr (.inl (vp_updL f 0 v.toInt64))) := by rw [et]; exact zup_at _ _ _
    refine zr_istore (ls' := [some (.ref ((zQ X 37))), some (.ref x), some (.ref ((x + 261))), some (.ref ((x + 273))), some (.ref ((x + 274))), some (.int (nI i)), some (.int 0), l7, l8]) dL_law_921 (by decide) rfl ?_
    refine zr_aload_n dL_law_923 rfl ?_
    refine zr_aload_n dL_law_924 rfl ?_
    refine zr_iload dL_law_925 rfl ?_
    refine zr_iconst (v := 1) dL_law_927 (by decide) ?_
    refine zr_iadd dL_law_928 ?_
    refine zr_eqi (x' := nI (i + 1)) (nI_add i 1) ?_
    refine zr_sat dL_law_929 (vp_in_nI (n := i + 1) (by omega) (by omega)) ?_
    rw [nI_clamp (n := i + 1) (by omega)]
    refine zr_callVi (rest := []) dL_law_930 vL_215 hr2 hy (by omega) (by omega) (by omega) rfl rfl (Nat.le_of_ble_eq_true rfl) (by decide) rfl (fun r3 u h3 => ?_)
    obtain ⟨er, F2, hI⟩ := h3
    rw [er]
    have F3 : zFr σ u (fun q => x ≤ q ∧ q < x + 274) := zFr.tr F1 F2 (fun q hq => by unfold zMr at hq; omega)
    have ko2 := zFr.get F2 (by unfold zMr; omega) ko
    obtain ⟨F8, h8, e8⟩ := hI.oy
    refine zr_istore (ls' := [some (.ref ((zQ X 37))), some (.ref x), some (.ref ((x + 261))), some (.ref ((x + 273))), some (.ref ((x + 274))), some (.int (nI i)), some (.int 0), some (.int v), l8]) dL_law_933 (by decide) rfl ?_
    refine zr_aload_n dL_law_935 rfl ?_
    refine zr_pVi (rest := []) dL_law_936 vL_173 (qX10_thrown hX h8) h8 (by omega) (by omega) (by omega) rfl rfl (Nat.le_of_ble_eq_true rfl) (by decide) rfl ?_
    refine zr_eqi (x' := 0) e8 ?_
    refine zr_iload dL_law_939 rfl ?_
    refine zr_icmp_eq (tgt := 946) dL_law_941 (by decide) (fun c_941 => ?_) (fun c_941 => absurd (by decide) c_941)
    refine zr_iload dL_law_946 rfl ?_
    refine zr_if_ne (tgt := 963) dL_law_948 (by decide) (fun c_948 => absurd (by decide) c_948) (fun c_948 => ?_)
    refine zr_aload_n dL_law_951 rfl ?_
    refine zr_iconst (v := 0) dL_law_952 (by decide) ?_
    refine zr_laload dL_law_953 ko2 (vp_in_nI (n := 0) (by omega) (by omega)) ?_
    rw [show (0 : Int32).toNatClampNeg = 0 from by decide]
    refine zr_eql (x' := v.toInt64) (by unfold vp_updL; rw [if_pos rfl]) ?_
    refine zr_iload dL_law_954 rfl ?_
    refine zr_i2l dL_law_956 ?_
    refine zr_lcmp dL_law_957 ?_
    refine zr_eqi (x' := 0) (lcmp_self _) ?_
    refine zr_if_eq (tgt := 963) dL_law_958 (by decide) (fun c_958 => ?_) (fun c_958 => absurd (by decide) c_958)
    refine zr_goto (tgt := 2861) dL_law_963 (by decide) ?_
    exact zr_less (by omega) (by omega) (kk u _ _ _ _ hI F3 ko2)
  · skip
    rcases List.mem_cons.mp hk with ek | hk
    · cases ek
      refine zr_callH (rest := []) dL_law_918 vL_213 (wN1_writhe hX hc hx) (by omega) (by omega) (by omega) rfl rfl (Nat.le_of_ble_eq_true rfl) rfl (fun v2 s1 h_ => ?_) (fun E1 s1 h_ => by obtain ⟨r, e, -⟩ := h_; cases e)
      obtain ⟨r, e, e2, hq⟩ := h_
      cases e
      rw [e2]
      have F0 := (hr _ hq).1
      have hy0 := zFr.get F0 (by unfold zXr; omega) hyo
      obtain ⟨d2, d29, hr2⟩ := (hr _ hq).2 s1 zFr.rf
      have hy := hy0
      have F1 : zFr σ s1 (fun q => x ≤ q ∧ q < x + 274) := F0.w (fun q hq => by unfold zXr at hq; omega)
      have ko := zFr.get F0 (by unfold zXr; omega) ho
      refine zr_istore (ls' := [some (.ref ((zQ X 37))), some (.ref x), some (.ref ((x + 261))), some (.ref ((x + 273))), some (.ref ((x + 274))), some (.int (nI i)), some (.int 1), l7, l8]) dL_law_921 (by decide) rfl ?_
      refine zr_aload_n dL_law_923 rfl ?_
      refine zr_aload_n dL_law_924 rfl ?_
      refine zr_iload dL_law_925 rfl ?_
      refine zr_iconst (v := 1) dL_law_927 (by decide) ?_
      refine zr_iadd dL_law_928 ?_
      refine zr_eqi (x' := nI (i + 1)) (nI_add i 1) ?_
      refine zr_sat dL_law_929 (vp_in_nI (n := i + 1) (by omega) (by omega)) ?_
      rw [nI_clamp (n := i + 1) (by omega)]
      refine zr_callVi (rest := []) dL_law_930 vL_215 hr2 hy (by omega) (by omega) (by omega) rfl rfl (Nat.le_of_ble_eq_true rfl) (by decide) rfl (fun r3 u h3 => ?_)
      obtain ⟨er, F2, hI⟩ := h3
      have F3 : zFr σ u (fun q => x ≤ q ∧ q < x + 274) := zFr.tr F1 F2 (fun q hq => by unfold zMr at hq; omega)
      have ko2 := zFr.get F2 (by unfold zMr; omega) ko
      obtain ⟨F8, h8, e8⟩ := hI.oy
      refine zr_istore (ls' := [some (.ref ((zQ X 37))), some (.ref x), some (.ref ((x + 261))), some (.ref ((x + 273))), some (.ref ((x + 274))), some (.int (nI i)), some (.int 1), some (.int r3), l8]) dL_law_933 (by decide) rfl ?_
      refine zr_aload_n dL_law_935 rfl ?_
      refine zr_pVi (rest := []) dL_law_936 vL_173 (qX10_thrown hX h8) h8 (by omega) (by omega) (by omega) rfl rfl (Nat.le_of_ble_eq_true rfl) (by decide) rfl ?_
      refine zr_eqi (x' := 1) e8 ?_
      refine zr_iload dL_law_939 rfl ?_
      refine zr_icmp_eq (tgt := 946) dL_law_941 (by decide) (fun c_941 => ?_) (fun c_941 => absurd (by decide) c_941)
      refine zr_iload dL_law_946 rfl ?_
      refine zr_if_ne (tgt := 963) dL_law_948 (by decide) (fun c_948 => ?_) (fun c_948 => absurd c_948 (by decide))
      refine zr_goto (tgt := 2861) dL_law_963 (by decide) ?_
      exact zr_less (by omega) (by omega) (kk u _ _ _ _ hI F3 ko2)
    · skip
      cases hk

set_option maxHeartbeats 400000 in
set_option maxRecDepth 100000 in
theorem blk_strandEnd {X : zX} (hX : X.1.stackTraces = false) {Q : zO → zS → Prop} {σ : zS} {x i bc bs : Nat} {l6 l7 l8 : Option Value} {f : Nat → Int64} (hQ : ∀ i j : Nat, i < 7 → j < 7 → zQ X i = zQ X j → i = j) (hi : i + 4 ≤ zsL X) (hs : zsL X < 2 ^ 31) (hI0 : zIv x (x + 261) 0 σ ∨ ∃ cd, zIv x (x + 261) cd σ) (hN : σ.2 = none) (ho : σ.1 (x + 273) = .inl (3, 1, .inr (.inl f))) (kk : ∀ (s : zS) (cd : Int32) (f2 : Nat → Int64) (m6 m7 : Option Value), zIv x (x + 261) cd s → zFr σ s (fun q => x ≤ q ∧ q < x + 274) → s.1 (x + 273) = .inl (3, 1, .inr (.inl f2)) → zW X mL_law 12 bc bs Q 2861 [some (.ref (zQ X 37)), some (.ref x), some (.ref (x + 261)), some (.ref (x + 273)), some (.ref (x + 274)), some (.int (nI i)), m6, m7, l8] [] s) : zW X mL_law 12 (bc + 1) (bs + 6) Q 966 [some (.ref (zQ X 37)), some (.ref x), some (.ref (x + 261)), some (.ref (x + 273)), some (.ref (x + 274)), some (.int (nI i)), l6, l7, l8] [] σ := by
  have hs2 : zsL X = X.2.2.2.2.2.1 := rfl
  obtain ⟨cd, hI⟩ : ∃ cd, zIv x (x + 261) cd σ := hI0.elim (fun h => ⟨_, h⟩) id
  obtain ⟨fs, hx⟩ := hI.ox
  obtain ⟨Fo, hyo, -⟩ := hI.oy
  obtain ⟨⟨A, S, m, U, n, T, ll, ln, hs1, kf, ld, dt, dc⟩, hK, hM, hL⟩ := hI
  refine zr_aload_n dL_law_966 rfl ?_
  refine zr_aload_n dL_law_967 rfl ?_
  refine zr_iload dL_law_968 rfl ?_
  refine zr_iconst (v := 1) dL_law_970 (by decide) ?_
  refine zr_iadd dL_law_971 ?_
  refine zr_eqi (x' := nI (i + 1)) (nI_add i 1) ?_
  refine zr_sat dL_law_972 (vp_in_nI (n := i + 1) (by omega) (by omega)) ?_
  rw [nI_clamp (n := i + 1) (by omega)]
  refine zr_aload_n dL_law_973 rfl ?_
  refine zr_iload dL_law_974 rfl ?_
  refine zr_iconst (v := 2) dL_law_976 (by decide) ?_
  refine zr_iadd dL_law_977 ?_
  refine zr_eqi (x' := nI (i + 2)) (nI_add i 2) ?_
  refine zr_sat dL_law_978 (vp_in_nI (n := i + 2) (by omega) (by omega)) ?_
  rw [nI_clamp (n := i + 2) (by omega)]
  refine zr_aload_n dL_law_979 rfl ?_
  have hsm := sem_strandEnd hX hK hM hL hN hQ (X.2.2.2.2.2.2 (i + 1)) (X.2.2.2.2.2.2 (i + 2))
  rcases hsm with ⟨v, d1, mc, ms, Qs, d9, m1, m6, hc, hr⟩ | ⟨E, k, d1, mc, ms, Qs, hk, d9, m1, m6, hc, hr⟩
  · refine zr_callH (rest := []) dL_law_980 vL_216 (wOK_strandEnd hX hc hx (fun s2 hq => zFr.get (hr s2 hq).1 (by unfold zXr; omega) ho)) (by omega) (by omega) (by omega) rfl rfl (Nat.le_of_ble_eq_true rfl) rfl (fun v2 s1 h_ => ?_) (fun E1 s1 h_ => by obtain ⟨r, e, -⟩ := h_; cases e)
    obtain ⟨r, e, e2, s2, hq, et⟩ := h_
    cases e
    rw [e2]
    have F0 := (hr _ hq).1
    have hy0 := zFr.get F0 (by unfold zXr; omega) hyo
    have Ft : zFr s2 s1 (zOu x) := by rw [et]; exact ⟨rfl, fun a ha => zup_ne _ _ (fun z => ha (by unfold zOu; omega))⟩
    obtain ⟨d2, d29, hr2⟩ := (hr _ hq).2 s1 Ft
    have hy := zFr.get Ft (by unfold zOu; omega) hy0
    have F1 : zFr σ s1 (fun q => x ≤ q ∧ q < x + 274) := zFr.tr (F0.w (fun q hq => by unfold zXr at hq; omega)) (P := fun q => x ≤ q ∧ q < x + 274) (show zFr s2 s1 (fun q => x ≤ q ∧ q < x + 274) from by rw [et]; exact ⟨rfl, fun a ha => zup_ne _ _ (fun z => ha (by omega))⟩) (fun q hq => hq)
    have ko : s1.1 (x + 273) = .inl (3, 1, .inr (.inl (vp_updL f 0 v.toInt64))) := by rw [et]; exact zup_at _ _ _
    refine zr_istore (ls' := [some (.ref ((zQ X 37))), some (.ref x), some (.ref ((x + 261))), some (.ref ((x + 273))), some (.ref ((x + 274))), some (.int (nI i)), some (.int 0), l7, l8]) dL_law_983 (by decide) rfl ?_
    refine zr_aload_n dL_law_985 rfl ?_
    refine zr_aload_n dL_law_986 rfl ?_
    refine zr_iload dL_law_987 rfl ?_
    refine zr_iconst (v := 1) dL_law_989 (by decide) ?_
    refine zr_iadd dL_law_990 ?_
    refine zr_eqi (x' := nI (i + 1)) (nI_add i 1) ?_
    refine zr_sat dL_law_991 (vp_in_nI (n := i + 1) (by omega) (by omega)) ?_
    rw [nI_clamp (n := i + 1) (by omega)]
    refine zr_aload_n dL_law_992 rfl ?_
    refine zr_iload dL_law_993 rfl ?_
    refine zr_iconst (v := 2) dL_law_995 (by decide) ?_
    refine zr_iadd dL_law_996 ?_
    refine zr_eqi (x' := nI (i + 2)) (nI_add i 2) ?_
    refine zr_sat dL_law_997 (vp_in_nI (n := i + 2) (by omega) (by omega)) ?_
    rw [nI_clamp (n := i + 2) (by omega)]
    refine zr_callVi (rest := []) dL_law_998 vL_218 hr2 hy (by omega) (by omega) (by omega) rfl rfl (Nat.le_of_ble_eq_true rfl) (by decide) rfl (fun r3 u h3 => ?_)
    obtain ⟨er, F2, hI⟩ := h3
    rw [er]
    have F3 : zFr σ u (fun q => x ≤ q ∧ q < x + 274) := zFr.tr F1 F2 (fun q hq => by unfold zMr at hq; omega)
    have ko2 := zFr.get F2 (by unfold zMr; omega) ko
    obtain ⟨F8, h8, e8⟩ := hI.oy
    refine zr_istore (ls' := [some (.ref ((zQ X 37))), some (.ref x), some (.ref ((x + 261))), some (.ref ((x + 273))), some (.ref ((x + 274))), some (.int (nI i)), some (.int 0), some (.int v), l8]) dL_law_1001 (by decide) rfl ?_
    refine zr_aload_n dL_law_1003 rfl ?_
    refine zr_pVi (rest := []) dL_law_1004 vL_173 (qX10_thrown hX h8) h8 (by omega) (by omega) (by omega) rfl rfl (Nat.le_of_ble_eq_true rfl) (by decide) rfl ?_
    refine zr_eqi (x' := 0) e8 ?_
    refine zr_iload dL_law_1007 rfl ?_
    refine zr_icmp_eq (tgt := 1014) dL_law_1009 (by decide) (fun c_1009 => ?_) (fun c_1009 => absurd (by decide) c_1009)
    refine zr_iload dL_law_1014 rfl ?_
    refine zr_if_ne (tgt := 1031) dL_law_1016 (by decide) (fun c_1016 => absurd (by decide) c_1016) (fun c_1016 => ?_)
    refine zr_aload_n dL_law_1019 rfl ?_
    refine zr_iconst (v := 0) dL_law_1020 (by decide) ?_
    refine zr_laload dL_law_1021 ko2 (vp_in_nI (n := 0) (by omega) (by omega)) ?_
    rw [show (0 : Int32).toNatClampNeg = 0 from by decide]
    refine zr_eql (x' := v.toInt64) (by unfold vp_updL; rw [if_pos rfl]) ?_
    refine zr_iload dL_law_1022 rfl ?_
    refine zr_i2l dL_law_1024 ?_
    refine zr_lcmp dL_law_1025 ?_
    refine zr_eqi (x' := 0) (lcmp_self _) ?_
    refine zr_if_eq (tgt := 1031) dL_law_1026 (by decide) (fun c_1026 => ?_) (fun c_1026 => absurd (by decide) c_1026)
    refine zr_goto (tgt := 2861) dL_law_1031 (by decide) ?_
    exact zr_less (by omega) (by omega) (kk u _ _ _ _ hI F3 ko2)
  · skip
    rcases List.mem_cons.mp hk with ek | hk
    · cases ek
      refine zr_callH (rest := []) dL_law_980 vL_216 (wN1_strandEnd hX hc hx) (by omega) (by omega) (by omega) rfl rfl (Nat.le_of_ble_eq_true rfl) rfl (fun v2 s1 h_ => ?_) (fun E1 s1 h_ => by obtain ⟨r, e, -⟩ := h_; cases e)
      obtain ⟨r, e, e2, hq⟩ := h_
      cases e
      rw [e2]
      have F0 := (hr _ hq).1
      have hy0 := zFr.get F0 (by unfold zXr; omega) hyo
      obtain ⟨d2, d29, hr2⟩ := (hr _ hq).2 s1 zFr.rf
      have hy := hy0
      have F1 : zFr σ s1 (fun q => x ≤ q ∧ q < x + 274) := F0.w (fun q hq => by unfold zXr at hq; omega)
      have ko := zFr.get F0 (by unfold zXr; omega) ho
      refine zr_istore (ls' := [some (.ref ((zQ X 37))), some (.ref x), some (.ref ((x + 261))), some (.ref ((x + 273))), some (.ref ((x + 274))), some (.int (nI i)), some (.int 1), l7, l8]) dL_law_983 (by decide) rfl ?_
      refine zr_aload_n dL_law_985 rfl ?_
      refine zr_aload_n dL_law_986 rfl ?_
      refine zr_iload dL_law_987 rfl ?_
      refine zr_iconst (v := 1) dL_law_989 (by decide) ?_
      refine zr_iadd dL_law_990 ?_
      refine zr_eqi (x' := nI (i + 1)) (nI_add i 1) ?_
      refine zr_sat dL_law_991 (vp_in_nI (n := i + 1) (by omega) (by omega)) ?_
      rw [nI_clamp (n := i + 1) (by omega)]
      refine zr_aload_n dL_law_992 rfl ?_
      refine zr_iload dL_law_993 rfl ?_
      refine zr_iconst (v := 2) dL_law_995 (by decide) ?_
      refine zr_iadd dL_law_996 ?_
      refine zr_eqi (x' := nI (i + 2)) (nI_add i 2) ?_
      refine zr_sat dL_law_997 (vp_in_nI (n := i + 2) (by omega) (by omega)) ?_
      rw [nI_clamp (n := i + 2) (by omega)]
      refine zr_callVi (rest := []) dL_law_998 vL_218 hr2 hy (by omega) (by omega) (by omega) rfl rfl (Nat.le_of_ble_eq_true rfl) (by decide) rfl (fun r3 u h3 => ?_)
      obtain ⟨er, F2, hI⟩ := h3
      have F3 : zFr σ u (fun q => x ≤ q ∧ q < x + 274) := zFr.tr F1 F2 (fun q hq => by unfold zMr at hq; omega)
      have ko2 := zFr.get F2 (by unfold zMr; omega) ko
      obtain ⟨F8, h8, e8⟩ := hI.oy
      refine zr_istore (ls' := [some (.ref ((zQ X 37))), some (.ref x), some (.ref ((x + 261))), some (.ref ((x + 273))), some (.ref ((x + 274))), some (.int (nI i)), some (.int 1), some (.int r3), l8]) dL_law_1001 (by decide) rfl ?_
      refine zr_aload_n dL_law_1003 rfl ?_
      refine zr_pVi (rest := []) dL_law_1004 vL_173 (qX10_thrown hX h8) h8 (by omega) (by omega) (by omega) rfl rfl (Nat.le_of_ble_eq_true rfl) (by decide) rfl ?_
      refine zr_eqi (x' := 1) e8 ?_
      refine zr_iload dL_law_1007 rfl ?_
      refine zr_icmp_eq (tgt := 1014) dL_law_1009 (by decide) (fun c_1009 => ?_) (fun c_1009 => absurd (by decide) c_1009)
      refine zr_iload dL_law_1014 rfl ?_
      refine zr_if_ne (tgt := 1031) dL_law_1016 (by decide) (fun c_1016 => ?_) (fun c_1016 => absurd c_1016 (by decide))
      refine zr_goto (tgt := 2861) dL_law_1031 (by decide) ?_
      exact zr_less (by omega) (by omega) (kk u _ _ _ _ hI F3 ko2)
    · skip
      rcases List.mem_cons.mp hk with ek | hk
      · cases ek
        refine zr_callH (rest := []) dL_law_980 vL_216 (wN2_strandEnd hX hc hx) (by omega) (by omega) (by omega) rfl rfl (Nat.le_of_ble_eq_true rfl) rfl (fun v2 s1 h_ => ?_) (fun E1 s1 h_ => by obtain ⟨r, e, -⟩ := h_; cases e)
        obtain ⟨r, e, e2, hq⟩ := h_
        cases e
        rw [e2]
        have F0 := (hr _ hq).1
        have hy0 := zFr.get F0 (by unfold zXr; omega) hyo
        obtain ⟨d2, d29, hr2⟩ := (hr _ hq).2 s1 zFr.rf
        have hy := hy0
        have F1 : zFr σ s1 (fun q => x ≤ q ∧ q < x + 274) := F0.w (fun q hq => by unfold zXr at hq; omega)
        have ko := zFr.get F0 (by unfold zXr; omega) ho
        refine zr_istore (ls' := [some (.ref ((zQ X 37))), some (.ref x), some (.ref ((x + 261))), some (.ref ((x + 273))), some (.ref ((x + 274))), some (.int (nI i)), some (.int 2), l7, l8]) dL_law_983 (by decide) rfl ?_
        refine zr_aload_n dL_law_985 rfl ?_
        refine zr_aload_n dL_law_986 rfl ?_
        refine zr_iload dL_law_987 rfl ?_
        refine zr_iconst (v := 1) dL_law_989 (by decide) ?_
        refine zr_iadd dL_law_990 ?_
        refine zr_eqi (x' := nI (i + 1)) (nI_add i 1) ?_
        refine zr_sat dL_law_991 (vp_in_nI (n := i + 1) (by omega) (by omega)) ?_
        rw [nI_clamp (n := i + 1) (by omega)]
        refine zr_aload_n dL_law_992 rfl ?_
        refine zr_iload dL_law_993 rfl ?_
        refine zr_iconst (v := 2) dL_law_995 (by decide) ?_
        refine zr_iadd dL_law_996 ?_
        refine zr_eqi (x' := nI (i + 2)) (nI_add i 2) ?_
        refine zr_sat dL_law_997 (vp_in_nI (n := i + 2) (by omega) (by omega)) ?_
        rw [nI_clamp (n := i + 2) (by omega)]
        refine zr_callVi (rest := []) dL_law_998 vL_218 hr2 hy (by omega) (by omega) (by omega) rfl rfl (Nat.le_of_ble_eq_true rfl) (by decide) rfl (fun r3 u h3 => ?_)
        obtain ⟨er, F2, hI⟩ := h3
        have F3 : zFr σ u (fun q => x ≤ q ∧ q < x + 274) := zFr.tr F1 F2 (fun q hq => by unfold zMr at hq; omega)
        have ko2 := zFr.get F2 (by unfold zMr; omega) ko
        obtain ⟨F8, h8, e8⟩ := hI.oy
        refine zr_istore (ls' := [some (.ref ((zQ X 37))), some (.ref x), some (.ref ((x + 261))), some (.ref ((x + 273))), some (.ref ((x + 274))), some (.int (nI i)), some (.int 2), some (.int r3), l8]) dL_law_1001 (by decide) rfl ?_
        refine zr_aload_n dL_law_1003 rfl ?_
        refine zr_pVi (rest := []) dL_law_1004 vL_173 (qX10_thrown hX h8) h8 (by omega) (by omega) (by omega) rfl rfl (Nat.le_of_ble_eq_true rfl) (by decide) rfl ?_
        refine zr_eqi (x' := 2) e8 ?_
        refine zr_iload dL_law_1007 rfl ?_
        refine zr_icmp_eq (tgt := 1014) dL_law_1009 (by decide) (fun c_1009 => ?_) (fun c_1009 => absurd (by decide) c_1009)
        refine zr_iload dL_law_1014 rfl ?_
        refine zr_if_ne (tgt := 1031) dL_law_1016 (by decide) (fun c_1016 => ?_) (fun c_1016 => absurd c_1016 (by decide))
        refine zr_goto (tgt := 2861) dL_law_1031 (by decide) ?_
        exact zr_less (by omega) (by omega) (kk u _ _ _ _ hI F3 ko2)
      · skip
        cases hk

set_option maxHeartbeats 400000 in
set_option maxRecDepth 100000 in
theorem blk_closedThreads {X : zX} (hX : X.1.stackTraces = false) {Q : zO → zS → Prop} {σ : zS} {x i bc bs : Nat} {l6 l7 l8 : Option Value} {f : Nat → Int64} (hQ : ∀ i j : Nat, i < 7 → j < 7 → zQ X i = zQ X j → i = j) (hi : i + 4 ≤ zsL X) (hs : zsL X < 2 ^ 31) (hI0 : zIv x (x + 261) 0 σ ∨ ∃ cd, zIv x (x + 261) cd σ) (hN : σ.2 = none) (ho : σ.1 (x + 273) = .inl (3, 1, .inr (.inl f))) (kk : ∀ (s : zS) (cd : Int32) (f2 : Nat → Int64) (m6 m7 : Option Value), zIv x (x + 261) cd s → zFr σ s (fun q => x ≤ q ∧ q < x + 274) → s.1 (x + 273) = .inl (3, 1, .inr (.inl f2)) → zW X mL_law 12 bc bs Q 2861 [some (.ref (zQ X 37)), some (.ref x), some (.ref (x + 261)), some (.ref (x + 273)), some (.ref (x + 274)), some (.int (nI i)), m6, m7, l8] [] s) : zW X mL_law 12 (bc + 1) (bs + 6) Q 1034 [some (.ref (zQ X 37)), some (.ref x), some (.ref (x + 261)), some (.ref (x + 273)), some (.ref (x + 274)), some (.int (nI i)), l6, l7, l8] [] σ := by
  have hs2 : zsL X = X.2.2.2.2.2.1 := rfl
  obtain ⟨cd, hI⟩ : ∃ cd, zIv x (x + 261) cd σ := hI0.elim (fun h => ⟨_, h⟩) id
  obtain ⟨fs, hx⟩ := hI.ox
  obtain ⟨Fo, hyo, -⟩ := hI.oy
  obtain ⟨⟨A, S, m, U, n, T, ll, ln, hs1, kf, ld, dt, dc⟩, hK, hM, hL⟩ := hI
  refine zr_aload_n dL_law_1034 rfl ?_
  refine zr_aload_n dL_law_1035 rfl ?_
  refine zr_iload dL_law_1036 rfl ?_
  refine zr_iconst (v := 1) dL_law_1038 (by decide) ?_
  refine zr_iadd dL_law_1039 ?_
  refine zr_eqi (x' := nI (i + 1)) (nI_add i 1) ?_
  refine zr_sat dL_law_1040 (vp_in_nI (n := i + 1) (by omega) (by omega)) ?_
  rw [nI_clamp (n := i + 1) (by omega)]
  refine zr_aload_n dL_law_1041 rfl ?_
  have hsm := sem_closedThreads hX hK hM hL hN hQ (X.2.2.2.2.2.2 (i + 1))
  rcases hsm with ⟨v, d1, mc, ms, Qs, d9, m1, m6, hc, hr⟩ | ⟨E, k, d1, mc, ms, Qs, hk, d9, m1, m6, hc, hr⟩
  · refine zr_callH (rest := []) dL_law_1042 vL_219 (wOK_closedThreads hX hc hx (fun s2 hq => zFr.get (hr s2 hq).1 (by unfold zXr; omega) ho)) (by omega) (by omega) (by omega) rfl rfl (Nat.le_of_ble_eq_true rfl) rfl (fun v2 s1 h_ => ?_) (fun E1 s1 h_ => by obtain ⟨r, e, -⟩ := h_; cases e)
    obtain ⟨r, e, e2, s2, hq, et⟩ := h_
    cases e
    rw [e2]
    have F0 := (hr _ hq).1
    have hy0 := zFr.get F0 (by unfold zXr; omega) hyo
    have Ft : zFr s2 s1 (zOu x) := by rw [et]; exact ⟨rfl, fun a ha => zup_ne _ _ (fun z => ha (by unfold zOu; omega))⟩
    obtain ⟨d2, d29, hr2⟩ := (hr _ hq).2 s1 Ft
    have hy := zFr.get Ft (by unfold zOu; omega) hy0
    have F1 : zFr σ s1 (fun q => x ≤ q ∧ q < x + 274) := zFr.tr (F0.w (fun q hq => by unfold zXr at hq; omega)) (P := fun q => x ≤ q ∧ q < x + 274) (show zFr s2 s1 (fun q => x ≤ q ∧ q < x + 274) from by rw [et]; exact ⟨rfl, fun a ha => zup_ne _ _ (fun z => ha (by omega))⟩) (fun q hq => hq)
    have ko : s1.1 (x + 273) = .inl (3, 1, .inr (.inl (vp_updL f 0 v.toInt64))) := by rw [et]; exact zup_at _ _ _
    refine zr_istore (ls' := [some (.ref ((zQ X 37))), some (.ref x), some (.ref ((x + 261))), some (.ref ((x + 273))), some (.ref ((x + 274))), some (.int (nI i)), some (.int 0), l7, l8]) dL_law_1045 (by decide) rfl ?_
    refine zr_aload_n dL_law_1047 rfl ?_
    refine zr_aload_n dL_law_1048 rfl ?_
    refine zr_iload dL_law_1049 rfl ?_
    refine zr_iconst (v := 1) dL_law_1051 (by decide) ?_
    refine zr_iadd dL_law_1052 ?_
    refine zr_eqi (x' := nI (i + 1)) (nI_add i 1) ?_
    refine zr_sat dL_law_1053 (vp_in_nI (n := i + 1) (by omega) (by omega)) ?_
    rw [nI_clamp (n := i + 1) (by omega)]
    refine zr_callVi (rest := []) dL_law_1054 vL_221 hr2 hy (by omega) (by omega) (by omega) rfl rfl (Nat.le_of_ble_eq_true rfl) (by decide) rfl (fun r3 u h3 => ?_)
    obtain ⟨er, F2, hI⟩ := h3
    rw [er]
    have F3 : zFr σ u (fun q => x ≤ q ∧ q < x + 274) := zFr.tr F1 F2 (fun q hq => by unfold zMr at hq; omega)
    have ko2 := zFr.get F2 (by unfold zMr; omega) ko
    obtain ⟨F8, h8, e8⟩ := hI.oy
    refine zr_istore (ls' := [some (.ref ((zQ X 37))), some (.ref x), some (.ref ((x + 261))), some (.ref ((x + 273))), some (.ref ((x + 274))), some (.int (nI i)), some (.int 0), some (.int v), l8]) dL_law_1057 (by decide) rfl ?_
    refine zr_aload_n dL_law_1059 rfl ?_
    refine zr_pVi (rest := []) dL_law_1060 vL_173 (qX10_thrown hX h8) h8 (by omega) (by omega) (by omega) rfl rfl (Nat.le_of_ble_eq_true rfl) (by decide) rfl ?_
    refine zr_eqi (x' := 0) e8 ?_
    refine zr_iload dL_law_1063 rfl ?_
    refine zr_icmp_eq (tgt := 1070) dL_law_1065 (by decide) (fun c_1065 => ?_) (fun c_1065 => absurd (by decide) c_1065)
    refine zr_iload dL_law_1070 rfl ?_
    refine zr_if_ne (tgt := 1087) dL_law_1072 (by decide) (fun c_1072 => absurd (by decide) c_1072) (fun c_1072 => ?_)
    refine zr_aload_n dL_law_1075 rfl ?_
    refine zr_iconst (v := 0) dL_law_1076 (by decide) ?_
    refine zr_laload dL_law_1077 ko2 (vp_in_nI (n := 0) (by omega) (by omega)) ?_
    rw [show (0 : Int32).toNatClampNeg = 0 from by decide]
    refine zr_eql (x' := v.toInt64) (by unfold vp_updL; rw [if_pos rfl]) ?_
    refine zr_iload dL_law_1078 rfl ?_
    refine zr_i2l dL_law_1080 ?_
    refine zr_lcmp dL_law_1081 ?_
    refine zr_eqi (x' := 0) (lcmp_self _) ?_
    refine zr_if_eq (tgt := 1087) dL_law_1082 (by decide) (fun c_1082 => ?_) (fun c_1082 => absurd (by decide) c_1082)
    refine zr_goto (tgt := 2861) dL_law_1087 (by decide) ?_
    exact zr_less (by omega) (by omega) (kk u _ _ _ _ hI F3 ko2)
  · skip
    rcases List.mem_cons.mp hk with ek | hk
    · cases ek
      refine zr_callH (rest := []) dL_law_1042 vL_219 (wN1_closedThreads hX hc hx) (by omega) (by omega) (by omega) rfl rfl (Nat.le_of_ble_eq_true rfl) rfl (fun v2 s1 h_ => ?_) (fun E1 s1 h_ => by obtain ⟨r, e, -⟩ := h_; cases e)
      obtain ⟨r, e, e2, hq⟩ := h_
      cases e
      rw [e2]
      have F0 := (hr _ hq).1
      have hy0 := zFr.get F0 (by unfold zXr; omega) hyo
      obtain ⟨d2, d29, hr2⟩ := (hr _ hq).2 s1 zFr.rf
      have hy := hy0
      have F1 : zFr σ s1 (fun q => x ≤ q ∧ q < x + 274) := F0.w (fun q hq => by unfold zXr at hq; omega)
      have ko := zFr.get F0 (by unfold zXr; omega) ho
      refine zr_istore (ls' := [some (.ref ((zQ X 37))), some (.ref x), some (.ref ((x + 261))), some (.ref ((x + 273))), some (.ref ((x + 274))), some (.int (nI i)), some (.int 1), l7, l8]) dL_law_1045 (by decide) rfl ?_
      refine zr_aload_n dL_law_1047 rfl ?_
      refine zr_aload_n dL_law_1048 rfl ?_
      refine zr_iload dL_law_1049 rfl ?_
      refine zr_iconst (v := 1) dL_law_1051 (by decide) ?_
      refine zr_iadd dL_law_1052 ?_
      refine zr_eqi (x' := nI (i + 1)) (nI_add i 1) ?_
      refine zr_sat dL_law_1053 (vp_in_nI (n := i + 1) (by omega) (by omega)) ?_
      rw [nI_clamp (n := i + 1) (by omega)]
      refine zr_callVi (rest := []) dL_law_1054 vL_221 hr2 hy (by omega) (by omega) (by omega) rfl rfl (Nat.le_of_ble_eq_true rfl) (by decide) rfl (fun r3 u h3 => ?_)
      obtain ⟨er, F2, hI⟩ := h3
      have F3 : zFr σ u (fun q => x ≤ q ∧ q < x + 274) := zFr.tr F1 F2 (fun q hq => by unfold zMr at hq; omega)
      have ko2 := zFr.get F2 (by unfold zMr; omega) ko
      obtain ⟨F8, h8, e8⟩ := hI.oy
      refine zr_istore (ls' := [some (.ref ((zQ X 37))), some (.ref x), some (.ref ((x + 261))), some (.ref ((x + 273))), some (.ref ((x + 274))), some (.int (nI i)), some (.int 1), some (.int r3), l8]) dL_law_1057 (by decide) rfl ?_
      refine zr_aload_n dL_law_1059 rfl ?_
      refine zr_pVi (rest := []) dL_law_1060 vL_173 (qX10_thrown hX h8) h8 (by omega) (by omega) (by omega) rfl rfl (Nat.le_of_ble_eq_true rfl) (by decide) rfl ?_
      refine zr_eqi (x' := 1) e8 ?_
      refine zr_iload dL_law_1063 rfl ?_
      refine zr_icmp_eq (tgt := 1070) dL_law_1065 (by decide) (fun c_1065 => ?_) (fun c_1065 => absurd (by decide) c_1065)
      refine zr_iload dL_law_1070 rfl ?_
      refine zr_if_ne (tgt := 1087) dL_law_1072 (by decide) (fun c_1072 => ?_) (fun c_1072 => absurd c_1072 (by decide))
      refine zr_goto (tgt := 2861) dL_law_1087 (by decide) ?_
      exact zr_less (by omega) (by omega) (kk u _ _ _ _ hI F3 ko2)
    · skip
      cases hk

set_option maxHeartbeats 400000 in
set_option maxRecDepth 100000 in
theorem blk_crossings {X : zX} (hX : X.1.stackTraces = false) {Q : zO → zS → Prop} {σ : zS} {x i bc bs : Nat} {l6 l7 l8 : Option Value} {f : Nat → Int64} (hQ : ∀ i j : Nat, i < 7 → j < 7 → zQ X i = zQ X j → i = j) (hi : i + 4 ≤ zsL X) (hs : zsL X < 2 ^ 31) (hI0 : zIv x (x + 261) 0 σ ∨ ∃ cd, zIv x (x + 261) cd σ) (hN : σ.2 = none) (ho : σ.1 (x + 273) = .inl (3, 1, .inr (.inl f))) (kk : ∀ (s : zS) (cd : Int32) (f2 : Nat → Int64) (m6 m7 : Option Value), zIv x (x + 261) cd s → zFr σ s (fun q => x ≤ q ∧ q < x + 274) → s.1 (x + 273) = .inl (3, 1, .inr (.inl f2)) → zW X mL_law 12 bc bs Q 2861 [some (.ref (zQ X 37)), some (.ref x), some (.ref (x + 261)), some (.ref (x + 273)), some (.ref (x + 274)), some (.int (nI i)), m6, m7, l8] [] s) : zW X mL_law 12 (bc + 1) (bs + 6) Q 1090 [some (.ref (zQ X 37)), some (.ref x), some (.ref (x + 261)), some (.ref (x + 273)), some (.ref (x + 274)), some (.int (nI i)), l6, l7, l8] [] σ := by
  have hs2 : zsL X = X.2.2.2.2.2.1 := rfl
  obtain ⟨cd, hI⟩ : ∃ cd, zIv x (x + 261) cd σ := hI0.elim (fun h => ⟨_, h⟩) id
  obtain ⟨fs, hx⟩ := hI.ox
  obtain ⟨Fo, hyo, -⟩ := hI.oy
  obtain ⟨⟨A, S, m, U, n, T, ll, ln, hs1, kf, ld, dt, dc⟩, hK, hM, hL⟩ := hI
  refine zr_aload_n dL_law_1090 rfl ?_
  refine zr_aload_n dL_law_1091 rfl ?_
  refine zr_iload dL_law_1092 rfl ?_
  refine zr_iconst (v := 1) dL_law_1094 (by decide) ?_
  refine zr_iadd dL_law_1095 ?_
  refine zr_eqi (x' := nI (i + 1)) (nI_add i 1) ?_
  refine zr_sat dL_law_1096 (vp_in_nI (n := i + 1) (by omega) (by omega)) ?_
  rw [nI_clamp (n := i + 1) (by omega)]
  refine zr_aload_n dL_law_1097 rfl ?_
  refine zr_iload dL_law_1098 rfl ?_
  refine zr_iconst (v := 2) dL_law_1100 (by decide) ?_
  refine zr_iadd dL_law_1101 ?_
  refine zr_eqi (x' := nI (i + 2)) (nI_add i 2) ?_
  refine zr_sat dL_law_1102 (vp_in_nI (n := i + 2) (by omega) (by omega)) ?_
  rw [nI_clamp (n := i + 2) (by omega)]
  refine zr_aload_n dL_law_1103 rfl ?_
  refine zr_iload dL_law_1104 rfl ?_
  refine zr_iconst (v := 3) dL_law_1106 (by decide) ?_
  refine zr_iadd dL_law_1107 ?_
  refine zr_eqi (x' := nI (i + 3)) (nI_add i 3) ?_
  refine zr_sat dL_law_1108 (vp_in_nI (n := i + 3) (by omega) (by omega)) ?_
  rw [nI_clamp (n := i + 3) (by omega)]
  refine zr_aload_n dL_law_1109 rfl ?_
  have hsm := sem_crossings hX hK hM hL hN hQ (X.2.2.2.2.2.2 (i + 1)) (X.2.2.2.2.2.2 (i + 2)) (X.2.2.2.2.2.2 (i + 3))
  rcases hsm with ⟨v, d1, mc, ms, Qs, d9, m1, m6, hc, hr⟩ | ⟨E, k, d1, mc, ms, Qs, hk, d9, m1, m6, hc, hr⟩
  · refine zr_callH (rest := []) dL_law_1110 vL_222 (wOK_crossings hX hc hx (fun s2 hq => zFr.get (hr s2 hq).1 (by unfold zXr; omega) ho)) (by omega) (by omega) (by omega) rfl rfl (Nat.le_of_ble_eq_true rfl) rfl (fun v2 s1 h_ => ?_) (fun E1 s1 h_ => by obtain ⟨r, e, -⟩ := h_; cases e)
    obtain ⟨r, e, e2, s2, hq, et⟩ := h_
    cases e
    rw [e2]
    have F0 := (hr _ hq).1
    have hy0 := zFr.get F0 (by unfold zXr; omega) hyo
    have Ft : zFr s2 s1 (zOu x) := by rw [et]; exact ⟨rfl, fun a ha => zup_ne _ _ (fun z => ha (by unfold zOu; omega))⟩
    obtain ⟨d2, d29, hr2⟩ := (hr _ hq).2 s1 Ft
    have hy := zFr.get Ft (by unfold zOu; omega) hy0
    have F1 : zFr σ s1 (fun q => x ≤ q ∧ q < x + 274) := zFr.tr (F0.w (fun q hq => by unfold zXr at hq; omega)) (P := fun q => x ≤ q ∧ q < x + 274) (show zFr s2 s1 (fun q => x ≤ q ∧ q < x + 274) from by rw [et]; exact ⟨rfl, fun a ha => zup_ne _ _ (fun z => ha (by omega))⟩) (fun q hq => hq)
    have ko : s1.1 (x + 273) = .inl (3, 1, .inr (.inl (vp_updL f 0 v.toInt64))) := by rw [et]; exact zup_at _ _ _
    refine zr_istore (ls' := [some (.ref ((zQ X 37))), some (.ref x), some (.ref ((x + 261))), some (.ref ((x + 273))), some (.ref ((x + 274))), some (.int (nI i)), some (.int 0), l7, l8]) dL_law_1113 (by decide) rfl ?_
    refine zr_aload_n dL_law_1115 rfl ?_
    refine zr_aload_n dL_law_1116 rfl ?_
    refine zr_iload dL_law_1117 rfl ?_
    refine zr_iconst (v := 1) dL_law_1119 (by decide) ?_
    refine zr_iadd dL_law_1120 ?_
    refine zr_eqi (x' := nI (i + 1)) (nI_add i 1) ?_
    refine zr_sat dL_law_1121 (vp_in_nI (n := i + 1) (by omega) (by omega)) ?_
    rw [nI_clamp (n := i + 1) (by omega)]
    refine zr_aload_n dL_law_1122 rfl ?_
    refine zr_iload dL_law_1123 rfl ?_
    refine zr_iconst (v := 2) dL_law_1125 (by decide) ?_
    refine zr_iadd dL_law_1126 ?_
    refine zr_eqi (x' := nI (i + 2)) (nI_add i 2) ?_
    refine zr_sat dL_law_1127 (vp_in_nI (n := i + 2) (by omega) (by omega)) ?_
    rw [nI_clamp (n := i + 2) (by omega)]
    refine zr_aload_n dL_law_1128 rfl ?_
    refine zr_iload dL_law_1129 rfl ?_
    refine zr_iconst (v := 3) dL_law_1131 (by decide) ?_
    refine zr_iadd dL_law_1132 ?_
    refine zr_eqi (x' := nI (i + 3)) (nI_add i 3) ?_
    refine zr_sat dL_law_1133 (vp_in_nI (n := i + 3) (by omega) (by omega)) ?_
    rw [nI_clamp (n := i + 3) (by omega)]
    refine zr_callVi (rest := []) dL_law_1134 vL_225 hr2 hy (by omega) (by omega) (by omega) rfl rfl (Nat.le_of_ble_eq_true rfl) (by decide) rfl (fun r3 u h3 => ?_)
    obtain ⟨er, F2, hI⟩ := h3
    rw [er]
    have F3 : zFr σ u (fun q => x ≤ q ∧ q < x + 274) := zFr.tr F1 F2 (fun q hq => by unfold zMr at hq; omega)
    have ko2 := zFr.get F2 (by unfold zMr; omega) ko
    obtain ⟨F8, h8, e8⟩ := hI.oy
    refine zr_istore (ls' := [some (.ref ((zQ X 37))), some (.ref x), some (.ref ((x + 261))), some (.ref ((x + 273))), some (.ref ((x + 274))), some (.int (nI i)), some (.int 0), some (.int v), l8]) dL_law_1137 (by decide) rfl ?_
    refine zr_aload_n dL_law_1139 rfl ?_
    refine zr_pVi (rest := []) dL_law_1140 vL_173 (qX10_thrown hX h8) h8 (by omega) (by omega) (by omega) rfl rfl (Nat.le_of_ble_eq_true rfl) (by decide) rfl ?_
    refine zr_eqi (x' := 0) e8 ?_
    refine zr_iload dL_law_1143 rfl ?_
    refine zr_icmp_eq (tgt := 1150) dL_law_1145 (by decide) (fun c_1145 => ?_) (fun c_1145 => absurd (by decide) c_1145)
    refine zr_iload dL_law_1150 rfl ?_
    refine zr_if_ne (tgt := 1167) dL_law_1152 (by decide) (fun c_1152 => absurd (by decide) c_1152) (fun c_1152 => ?_)
    refine zr_aload_n dL_law_1155 rfl ?_
    refine zr_iconst (v := 0) dL_law_1156 (by decide) ?_
    refine zr_laload dL_law_1157 ko2 (vp_in_nI (n := 0) (by omega) (by omega)) ?_
    rw [show (0 : Int32).toNatClampNeg = 0 from by decide]
    refine zr_eql (x' := v.toInt64) (by unfold vp_updL; rw [if_pos rfl]) ?_
    refine zr_iload dL_law_1158 rfl ?_
    refine zr_i2l dL_law_1160 ?_
    refine zr_lcmp dL_law_1161 ?_
    refine zr_eqi (x' := 0) (lcmp_self _) ?_
    refine zr_if_eq (tgt := 1167) dL_law_1162 (by decide) (fun c_1162 => ?_) (fun c_1162 => absurd (by decide) c_1162)
    refine zr_goto (tgt := 2861) dL_law_1167 (by decide) ?_
    exact zr_less (by omega) (by omega) (kk u _ _ _ _ hI F3 ko2)
  · skip
    rcases List.mem_cons.mp hk with ek | hk
    · cases ek
      refine zr_callH (rest := []) dL_law_1110 vL_222 (wN1_crossings hX hc hx) (by omega) (by omega) (by omega) rfl rfl (Nat.le_of_ble_eq_true rfl) rfl (fun v2 s1 h_ => ?_) (fun E1 s1 h_ => by obtain ⟨r, e, -⟩ := h_; cases e)
      obtain ⟨r, e, e2, hq⟩ := h_
      cases e
      rw [e2]
      have F0 := (hr _ hq).1
      have hy0 := zFr.get F0 (by unfold zXr; omega) hyo
      obtain ⟨d2, d29, hr2⟩ := (hr _ hq).2 s1 zFr.rf
      have hy := hy0
      have F1 : zFr σ s1 (fun q => x ≤ q ∧ q < x + 274) := F0.w (fun q hq => by unfold zXr at hq; omega)
      have ko := zFr.get F0 (by unfold zXr; omega) ho
      refine zr_istore (ls' := [some (.ref ((zQ X 37))), some (.ref x), some (.ref ((x + 261))), some (.ref ((x + 273))), some (.ref ((x + 274))), some (.int (nI i)), some (.int 1), l7, l8]) dL_law_1113 (by decide) rfl ?_
      refine zr_aload_n dL_law_1115 rfl ?_
      refine zr_aload_n dL_law_1116 rfl ?_
      refine zr_iload dL_law_1117 rfl ?_
      refine zr_iconst (v := 1) dL_law_1119 (by decide) ?_
      refine zr_iadd dL_law_1120 ?_
      refine zr_eqi (x' := nI (i + 1)) (nI_add i 1) ?_
      refine zr_sat dL_law_1121 (vp_in_nI (n := i + 1) (by omega) (by omega)) ?_
      rw [nI_clamp (n := i + 1) (by omega)]
      refine zr_aload_n dL_law_1122 rfl ?_
      refine zr_iload dL_law_1123 rfl ?_
      refine zr_iconst (v := 2) dL_law_1125 (by decide) ?_
      refine zr_iadd dL_law_1126 ?_
      refine zr_eqi (x' := nI (i + 2)) (nI_add i 2) ?_
      refine zr_sat dL_law_1127 (vp_in_nI (n := i + 2) (by omega) (by omega)) ?_
      rw [nI_clamp (n := i + 2) (by omega)]
      refine zr_aload_n dL_law_1128 rfl ?_
      refine zr_iload dL_law_1129 rfl ?_
      refine zr_iconst (v := 3) dL_law_1131 (by decide) ?_
      refine zr_iadd dL_law_1132 ?_
      refine zr_eqi (x' := nI (i + 3)) (nI_add i 3) ?_
      refine zr_sat dL_law_1133 (vp_in_nI (n := i + 3) (by omega) (by omega)) ?_
      rw [nI_clamp (n := i + 3) (by omega)]
      refine zr_callVi (rest := []) dL_law_1134 vL_225 hr2 hy (by omega) (by omega) (by omega) rfl rfl (Nat.le_of_ble_eq_true rfl) (by decide) rfl (fun r3 u h3 => ?_)
      obtain ⟨er, F2, hI⟩ := h3
      have F3 : zFr σ u (fun q => x ≤ q ∧ q < x + 274) := zFr.tr F1 F2 (fun q hq => by unfold zMr at hq; omega)
      have ko2 := zFr.get F2 (by unfold zMr; omega) ko
      obtain ⟨F8, h8, e8⟩ := hI.oy
      refine zr_istore (ls' := [some (.ref ((zQ X 37))), some (.ref x), some (.ref ((x + 261))), some (.ref ((x + 273))), some (.ref ((x + 274))), some (.int (nI i)), some (.int 1), some (.int r3), l8]) dL_law_1137 (by decide) rfl ?_
      refine zr_aload_n dL_law_1139 rfl ?_
      refine zr_pVi (rest := []) dL_law_1140 vL_173 (qX10_thrown hX h8) h8 (by omega) (by omega) (by omega) rfl rfl (Nat.le_of_ble_eq_true rfl) (by decide) rfl ?_
      refine zr_eqi (x' := 1) e8 ?_
      refine zr_iload dL_law_1143 rfl ?_
      refine zr_icmp_eq (tgt := 1150) dL_law_1145 (by decide) (fun c_1145 => ?_) (fun c_1145 => absurd (by decide) c_1145)
      refine zr_iload dL_law_1150 rfl ?_
      refine zr_if_ne (tgt := 1167) dL_law_1152 (by decide) (fun c_1152 => ?_) (fun c_1152 => absurd c_1152 (by decide))
      refine zr_goto (tgt := 2861) dL_law_1167 (by decide) ?_
      exact zr_less (by omega) (by omega) (kk u _ _ _ _ hI F3 ko2)
    · skip
      rcases List.mem_cons.mp hk with ek | hk
      · cases ek
        refine zr_callH (rest := []) dL_law_1110 vL_222 (wN2_crossings hX hc hx) (by omega) (by omega) (by omega) rfl rfl (Nat.le_of_ble_eq_true rfl) rfl (fun v2 s1 h_ => ?_) (fun E1 s1 h_ => by obtain ⟨r, e, -⟩ := h_; cases e)
        obtain ⟨r, e, e2, hq⟩ := h_
        cases e
        rw [e2]
        have F0 := (hr _ hq).1
        have hy0 := zFr.get F0 (by unfold zXr; omega) hyo
        obtain ⟨d2, d29, hr2⟩ := (hr _ hq).2 s1 zFr.rf
        have hy := hy0
        have F1 : zFr σ s1 (fun q => x ≤ q ∧ q < x + 274) := F0.w (fun q hq => by unfold zXr at hq; omega)
        have ko := zFr.get F0 (by unfold zXr; omega) ho
        refine zr_istore (ls' := [some (.ref ((zQ X 37))), some (.ref x), some (.ref ((x + 261))), some (.ref ((x + 273))), some (.ref ((x + 274))), some (.int (nI i)), some (.int 2), l7, l8]) dL_law_1113 (by decide) rfl ?_
        refine zr_aload_n dL_law_1115 rfl ?_
        refine zr_aload_n dL_law_1116 rfl ?_
        refine zr_iload dL_law_1117 rfl ?_
        refine zr_iconst (v := 1) dL_law_1119 (by decide) ?_
        refine zr_iadd dL_law_1120 ?_
        refine zr_eqi (x' := nI (i + 1)) (nI_add i 1) ?_
        refine zr_sat dL_law_1121 (vp_in_nI (n := i + 1) (by omega) (by omega)) ?_
        rw [nI_clamp (n := i + 1) (by omega)]
        refine zr_aload_n dL_law_1122 rfl ?_
        refine zr_iload dL_law_1123 rfl ?_
        refine zr_iconst (v := 2) dL_law_1125 (by decide) ?_
        refine zr_iadd dL_law_1126 ?_
        refine zr_eqi (x' := nI (i + 2)) (nI_add i 2) ?_
        refine zr_sat dL_law_1127 (vp_in_nI (n := i + 2) (by omega) (by omega)) ?_
        rw [nI_clamp (n := i + 2) (by omega)]
        refine zr_aload_n dL_law_1128 rfl ?_
        refine zr_iload dL_law_1129 rfl ?_
        refine zr_iconst (v := 3) dL_law_1131 (by decide) ?_
        refine zr_iadd dL_law_1132 ?_
        refine zr_eqi (x' := nI (i + 3)) (nI_add i 3) ?_
        refine zr_sat dL_law_1133 (vp_in_nI (n := i + 3) (by omega) (by omega)) ?_
        rw [nI_clamp (n := i + 3) (by omega)]
        refine zr_callVi (rest := []) dL_law_1134 vL_225 hr2 hy (by omega) (by omega) (by omega) rfl rfl (Nat.le_of_ble_eq_true rfl) (by decide) rfl (fun r3 u h3 => ?_)
        obtain ⟨er, F2, hI⟩ := h3
        have F3 : zFr σ u (fun q => x ≤ q ∧ q < x + 274) := zFr.tr F1 F2 (fun q hq => by unfold zMr at hq; omega)
        have ko2 := zFr.get F2 (by unfold zMr; omega) ko
        obtain ⟨F8, h8, e8⟩ := hI.oy
        refine zr_istore (ls' := [some (.ref ((zQ X 37))), some (.ref x), some (.ref ((x + 261))), some (.ref ((x + 273))), some (.ref ((x + 274))), some (.int (nI i)), some (.int 2), some (.int r3), l8]) dL_law_1137 (by decide) rfl ?_
        refine zr_aload_n dL_law_1139 rfl ?_
        refine zr_pVi (rest := []) dL_law_1140 vL_173 (qX10_thrown hX h8) h8 (by omega) (by omega) (by omega) rfl rfl (Nat.le_of_ble_eq_true rfl) (by decide) rfl ?_
        refine zr_eqi (x' := 2) e8 ?_
        refine zr_iload dL_law_1143 rfl ?_
        refine zr_icmp_eq (tgt := 1150) dL_law_1145 (by decide) (fun c_1145 => ?_) (fun c_1145 => absurd (by decide) c_1145)
        refine zr_iload dL_law_1150 rfl ?_
        refine zr_if_ne (tgt := 1167) dL_law_1152 (by decide) (fun c_1152 => ?_) (fun c_1152 => absurd c_1152 (by decide))
        refine zr_goto (tgt := 2861) dL_law_1167 (by decide) ?_
        exact zr_less (by omega) (by omega) (kk u _ _ _ _ hI F3 ko2)
      · skip
        cases hk

set_option maxHeartbeats 400000 in
set_option maxRecDepth 100000 in
theorem blk_isTrivial {X : zX} (hX : X.1.stackTraces = false) {Q : zO → zS → Prop} {σ : zS} {x i bc bs : Nat} {l6 l7 l8 : Option Value} {f : Nat → Int64} (hQ : ∀ i j : Nat, i < 7 → j < 7 → zQ X i = zQ X j → i = j) (hi : i + 4 ≤ zsL X) (hs : zsL X < 2 ^ 31) (hI0 : zIv x (x + 261) 0 σ ∨ ∃ cd, zIv x (x + 261) cd σ) (hN : σ.2 = none) (ho : σ.1 (x + 273) = .inl (3, 1, .inr (.inl f))) (kk : ∀ (s : zS) (cd : Int32) (f2 : Nat → Int64) (m6 m7 : Option Value), zIv x (x + 261) cd s → zFr σ s (fun q => x ≤ q ∧ q < x + 274) → s.1 (x + 273) = .inl (3, 1, .inr (.inl f2)) → zW X mL_law 12 bc bs Q 2861 [some (.ref (zQ X 37)), some (.ref x), some (.ref (x + 261)), some (.ref (x + 273)), some (.ref (x + 274)), some (.int (nI i)), m6, m7, l8] [] s) : zW X mL_law 12 (bc + 1) (bs + 6) Q 1237 [some (.ref (zQ X 37)), some (.ref x), some (.ref (x + 261)), some (.ref (x + 273)), some (.ref (x + 274)), some (.int (nI i)), l6, l7, l8] [] σ := by
  have hs2 : zsL X = X.2.2.2.2.2.1 := rfl
  obtain ⟨cd, hI⟩ : ∃ cd, zIv x (x + 261) cd σ := hI0.elim (fun h => ⟨_, h⟩) id
  obtain ⟨fs, hx⟩ := hI.ox
  obtain ⟨Fo, hyo, -⟩ := hI.oy
  obtain ⟨⟨A, S, m, U, n, T, ll, ln, hs1, kf, ld, dt, dc⟩, hK, hM, hL⟩ := hI
  refine zr_aload_n dL_law_1237 rfl ?_
  refine zr_aload_n dL_law_1238 rfl ?_
  refine zr_iload dL_law_1239 rfl ?_
  refine zr_iconst (v := 1) dL_law_1241 (by decide) ?_
  refine zr_iadd dL_law_1242 ?_
  refine zr_eqi (x' := nI (i + 1)) (nI_add i 1) ?_
  refine zr_sat dL_law_1243 (vp_in_nI (n := i + 1) (by omega) (by omega)) ?_
  rw [nI_clamp (n := i + 1) (by omega)]
  refine zr_aload_n dL_law_1244 rfl ?_
  have hsm := sem_isTrivial hX hK hM hL hN hQ (X.2.2.2.2.2.2 (i + 1))
  rcases hsm with ⟨v, d1, mc, ms, Qs, d9, m1, m6, hc, hr⟩ | ⟨E, k, d1, mc, ms, Qs, hk, d9, m1, m6, hc, hr⟩
  · refine zr_callH (rest := []) dL_law_1245 vL_229 (wOK_isTrivial hX hc hx (fun s2 hq => zFr.get (hr s2 hq).1 (by unfold zXr; omega) ho)) (by omega) (by omega) (by omega) rfl rfl (Nat.le_of_ble_eq_true rfl) rfl (fun v2 s1 h_ => ?_) (fun E1 s1 h_ => by obtain ⟨r, e, -⟩ := h_; cases e)
    obtain ⟨r, e, e2, s2, hq, et⟩ := h_
    cases e
    rw [e2]
    have F0 := (hr _ hq).1
    have hy0 := zFr.get F0 (by unfold zXr; omega) hyo
    have Ft : zFr s2 s1 (zOu x) := by rw [et]; exact ⟨rfl, fun a ha => zup_ne _ _ (fun z => ha (by unfold zOu; omega))⟩
    obtain ⟨d2, d29, hr2⟩ := (hr _ hq).2 s1 Ft
    have hy := zFr.get Ft (by unfold zOu; omega) hy0
    have F1 : zFr σ s1 (fun q => x ≤ q ∧ q < x + 274) := zFr.tr (F0.w (fun q hq => by unfold zXr at hq; omega)) (P := fun q => x ≤ q ∧ q < x + 274) (show zFr s2 s1 (fun q => x ≤ q ∧ q < x + 274) from by rw [et]; exact ⟨rfl, fun a ha => zup_ne _ _ (fun z => ha (by omega))⟩) (fun q hq => hq)
    have ko : s1.1 (x + 273) = .inl (3, 1, .inr (.inl (vp_updL f 0 (if v = 0 then 0 else 1)))) := by rw [et]; exact zup_at _ _ _
    refine zr_istore (ls' := [some (.ref ((zQ X 37))), some (.ref x), some (.ref ((x + 261))), some (.ref ((x + 273))), some (.ref ((x + 274))), some (.int (nI i)), some (.int 0), l7, l8]) dL_law_1248 (by decide) rfl ?_
    refine zr_aload_n dL_law_1250 rfl ?_
    refine zr_aload_n dL_law_1251 rfl ?_
    refine zr_iload dL_law_1252 rfl ?_
    refine zr_iconst (v := 1) dL_law_1254 (by decide) ?_
    refine zr_iadd dL_law_1255 ?_
    refine zr_eqi (x' := nI (i + 1)) (nI_add i 1) ?_
    refine zr_sat dL_law_1256 (vp_in_nI (n := i + 1) (by omega) (by omega)) ?_
    rw [nI_clamp (n := i + 1) (by omega)]
    refine zr_callVi (rest := []) dL_law_1257 vL_231 hr2 hy (by omega) (by omega) (by omega) rfl rfl (Nat.le_of_ble_eq_true rfl) (by decide) rfl (fun r3 u h3 => ?_)
    obtain ⟨er, F2, hI⟩ := h3
    rw [er]
    have F3 : zFr σ u (fun q => x ≤ q ∧ q < x + 274) := zFr.tr F1 F2 (fun q hq => by unfold zMr at hq; omega)
    have ko2 := zFr.get F2 (by unfold zMr; omega) ko
    obtain ⟨F8, h8, e8⟩ := hI.oy
    refine zr_istore (ls' := [some (.ref ((zQ X 37))), some (.ref x), some (.ref ((x + 261))), some (.ref ((x + 273))), some (.ref ((x + 274))), some (.int (nI i)), some (.int 0), some (.int v), l8]) dL_law_1260 (by decide) rfl ?_
    refine zr_aload_n dL_law_1262 rfl ?_
    refine zr_pVi (rest := []) dL_law_1263 vL_173 (qX10_thrown hX h8) h8 (by omega) (by omega) (by omega) rfl rfl (Nat.le_of_ble_eq_true rfl) (by decide) rfl ?_
    refine zr_eqi (x' := 0) e8 ?_
    refine zr_iload dL_law_1266 rfl ?_
    refine zr_icmp_eq (tgt := 1273) dL_law_1268 (by decide) (fun c_1268 => ?_) (fun c_1268 => absurd (by decide) c_1268)
    refine zr_iload dL_law_1273 rfl ?_
    refine zr_if_ne (tgt := 1297) dL_law_1275 (by decide) (fun c_1275 => absurd (by decide) c_1275) (fun c_1275 => ?_)
    refine zr_aload_n dL_law_1278 rfl ?_
    refine zr_iconst (v := 0) dL_law_1279 (by decide) ?_
    refine zr_laload dL_law_1280 ko2 (vp_in_nI (n := 0) (by omega) (by omega)) ?_
    rw [show (0 : Int32).toNatClampNeg = 0 from by decide]
    refine zr_eql (x' := (if v = 0 then 0 else 1)) (by unfold vp_updL; rw [if_pos rfl]) ?_
    refine zr_iload dL_law_1281 rfl ?_
    refine zr_if_eq (tgt := 1290) dL_law_1283 (by decide) (fun c_1283 => ?_) (fun c_1283 => ?_)
    · refine zr_lconst (v := 0) dL_law_1290 (by decide) ?_
      refine zr_lcmp dL_law_1291 ?_
      refine zr_eqi (x' := 0) (by rw [if_pos c_1283]; exact lcmp_self _) ?_
      refine zr_if_eq (tgt := 1297) dL_law_1292 (by decide) (fun c_1292 => ?_) (fun c_1292 => absurd (by decide) c_1292)
      refine zr_goto (tgt := 2861) dL_law_1297 (by decide) ?_
      exact zr_less (by omega) (by omega) (kk u _ _ _ _ hI F3 ko2)
    · refine zr_lconst (v := 1) dL_law_1286 (by decide) ?_
      refine zr_goto (tgt := 1291) dL_law_1287 (by decide) ?_
      refine zr_lcmp dL_law_1291 ?_
      refine zr_eqi (x' := 0) (by rw [if_neg c_1283]; exact lcmp_self _) ?_
      refine zr_if_eq (tgt := 1297) dL_law_1292 (by decide) (fun c_1292 => ?_) (fun c_1292 => absurd (by decide) c_1292)
      refine zr_goto (tgt := 2861) dL_law_1297 (by decide) ?_
      exact zr_less (by omega) (by omega) (kk u _ _ _ _ hI F3 ko2)
  · skip
    rcases List.mem_cons.mp hk with ek | hk
    · cases ek
      refine zr_callH (rest := []) dL_law_1245 vL_229 (wN1_isTrivial hX hc hx) (by omega) (by omega) (by omega) rfl rfl (Nat.le_of_ble_eq_true rfl) rfl (fun v2 s1 h_ => ?_) (fun E1 s1 h_ => by obtain ⟨r, e, -⟩ := h_; cases e)
      obtain ⟨r, e, e2, hq⟩ := h_
      cases e
      rw [e2]
      have F0 := (hr _ hq).1
      have hy0 := zFr.get F0 (by unfold zXr; omega) hyo
      obtain ⟨d2, d29, hr2⟩ := (hr _ hq).2 s1 zFr.rf
      have hy := hy0
      have F1 : zFr σ s1 (fun q => x ≤ q ∧ q < x + 274) := F0.w (fun q hq => by unfold zXr at hq; omega)
      have ko := zFr.get F0 (by unfold zXr; omega) ho
      refine zr_istore (ls' := [some (.ref ((zQ X 37))), some (.ref x), some (.ref ((x + 261))), some (.ref ((x + 273))), some (.ref ((x + 274))), some (.int (nI i)), some (.int 1), l7, l8]) dL_law_1248 (by decide) rfl ?_
      refine zr_aload_n dL_law_1250 rfl ?_
      refine zr_aload_n dL_law_1251 rfl ?_
      refine zr_iload dL_law_1252 rfl ?_
      refine zr_iconst (v := 1) dL_law_1254 (by decide) ?_
      refine zr_iadd dL_law_1255 ?_
      refine zr_eqi (x' := nI (i + 1)) (nI_add i 1) ?_
      refine zr_sat dL_law_1256 (vp_in_nI (n := i + 1) (by omega) (by omega)) ?_
      rw [nI_clamp (n := i + 1) (by omega)]
      refine zr_callVi (rest := []) dL_law_1257 vL_231 hr2 hy (by omega) (by omega) (by omega) rfl rfl (Nat.le_of_ble_eq_true rfl) (by decide) rfl (fun r3 u h3 => ?_)
      obtain ⟨er, F2, hI⟩ := h3
      have F3 : zFr σ u (fun q => x ≤ q ∧ q < x + 274) := zFr.tr F1 F2 (fun q hq => by unfold zMr at hq; omega)
      have ko2 := zFr.get F2 (by unfold zMr; omega) ko
      obtain ⟨F8, h8, e8⟩ := hI.oy
      refine zr_istore (ls' := [some (.ref ((zQ X 37))), some (.ref x), some (.ref ((x + 261))), some (.ref ((x + 273))), some (.ref ((x + 274))), some (.int (nI i)), some (.int 1), some (.int r3), l8]) dL_law_1260 (by decide) rfl ?_
      refine zr_aload_n dL_law_1262 rfl ?_
      refine zr_pVi (rest := []) dL_law_1263 vL_173 (qX10_thrown hX h8) h8 (by omega) (by omega) (by omega) rfl rfl (Nat.le_of_ble_eq_true rfl) (by decide) rfl ?_
      refine zr_eqi (x' := 1) e8 ?_
      refine zr_iload dL_law_1266 rfl ?_
      refine zr_icmp_eq (tgt := 1273) dL_law_1268 (by decide) (fun c_1268 => ?_) (fun c_1268 => absurd (by decide) c_1268)
      refine zr_iload dL_law_1273 rfl ?_
      refine zr_if_ne (tgt := 1297) dL_law_1275 (by decide) (fun c_1275 => ?_) (fun c_1275 => absurd c_1275 (by decide))
      refine zr_goto (tgt := 2861) dL_law_1297 (by decide) ?_
      exact zr_less (by omega) (by omega) (kk u _ _ _ _ hI F3 ko2)
    · skip
      rcases List.mem_cons.mp hk with ek | hk
      · cases ek
        refine zr_callH (rest := []) dL_law_1245 vL_229 (wN2_isTrivial hX hc hx) (by omega) (by omega) (by omega) rfl rfl (Nat.le_of_ble_eq_true rfl) rfl (fun v2 s1 h_ => ?_) (fun E1 s1 h_ => by obtain ⟨r, e, -⟩ := h_; cases e)
        obtain ⟨r, e, e2, hq⟩ := h_
        cases e
        rw [e2]
        have F0 := (hr _ hq).1
        have hy0 := zFr.get F0 (by unfold zXr; omega) hyo
        obtain ⟨d2, d29, hr2⟩ := (hr _ hq).2 s1 zFr.rf
        have hy := hy0
        have F1 : zFr σ s1 (fun q => x ≤ q ∧ q < x + 274) := F0.w (fun q hq => by unfold zXr at hq; omega)
        have ko := zFr.get F0 (by unfold zXr; omega) ho
        refine zr_istore (ls' := [some (.ref ((zQ X 37))), some (.ref x), some (.ref ((x + 261))), some (.ref ((x + 273))), some (.ref ((x + 274))), some (.int (nI i)), some (.int 2), l7, l8]) dL_law_1248 (by decide) rfl ?_
        refine zr_aload_n dL_law_1250 rfl ?_
        refine zr_aload_n dL_law_1251 rfl ?_
        refine zr_iload dL_law_1252 rfl ?_
        refine zr_iconst (v := 1) dL_law_1254 (by decide) ?_
        refine zr_iadd dL_law_1255 ?_
        refine zr_eqi (x' := nI (i + 1)) (nI_add i 1) ?_
        refine zr_sat dL_law_1256 (vp_in_nI (n := i + 1) (by omega) (by omega)) ?_
        rw [nI_clamp (n := i + 1) (by omega)]
        refine zr_callVi (rest := []) dL_law_1257 vL_231 hr2 hy (by omega) (by omega) (by omega) rfl rfl (Nat.le_of_ble_eq_true rfl) (by decide) rfl (fun r3 u h3 => ?_)
        obtain ⟨er, F2, hI⟩ := h3
        have F3 : zFr σ u (fun q => x ≤ q ∧ q < x + 274) := zFr.tr F1 F2 (fun q hq => by unfold zMr at hq; omega)
        have ko2 := zFr.get F2 (by unfold zMr; omega) ko
        obtain ⟨F8, h8, e8⟩ := hI.oy
        refine zr_istore (ls' := [some (.ref ((zQ X 37))), some (.ref x), some (.ref ((x + 261))), some (.ref ((x + 273))), some (.ref ((x + 274))), some (.int (nI i)), some (.int 2), some (.int r3), l8]) dL_law_1260 (by decide) rfl ?_
        refine zr_aload_n dL_law_1262 rfl ?_
        refine zr_pVi (rest := []) dL_law_1263 vL_173 (qX10_thrown hX h8) h8 (by omega) (by omega) (by omega) rfl rfl (Nat.le_of_ble_eq_true rfl) (by decide) rfl ?_
        refine zr_eqi (x' := 2) e8 ?_
        refine zr_iload dL_law_1266 rfl ?_
        refine zr_icmp_eq (tgt := 1273) dL_law_1268 (by decide) (fun c_1268 => ?_) (fun c_1268 => absurd (by decide) c_1268)
        refine zr_iload dL_law_1273 rfl ?_
        refine zr_if_ne (tgt := 1297) dL_law_1275 (by decide) (fun c_1275 => ?_) (fun c_1275 => absurd c_1275 (by decide))
        refine zr_goto (tgt := 2861) dL_law_1297 (by decide) ?_
        exact zr_less (by omega) (by omega) (kk u _ _ _ _ hI F3 ko2)
      · skip
        cases hk

set_option maxHeartbeats 400000 in
set_option maxRecDepth 100000 in
theorem blk_areEqual {X : zX} (hX : X.1.stackTraces = false) {Q : zO → zS → Prop} {σ : zS} {x i bc bs : Nat} {l6 l7 l8 : Option Value} {f : Nat → Int64} (hQ : ∀ i j : Nat, i < 7 → j < 7 → zQ X i = zQ X j → i = j) (hi : i + 4 ≤ zsL X) (hs : zsL X < 2 ^ 31) (hI0 : zIv x (x + 261) 0 σ ∨ ∃ cd, zIv x (x + 261) cd σ) (hN : σ.2 = none) (ho : σ.1 (x + 273) = .inl (3, 1, .inr (.inl f))) (kk : ∀ (s : zS) (cd : Int32) (f2 : Nat → Int64) (m6 m7 : Option Value), zIv x (x + 261) cd s → zFr σ s (fun q => x ≤ q ∧ q < x + 274) → s.1 (x + 273) = .inl (3, 1, .inr (.inl f2)) → zW X mL_law 12 bc bs Q 2861 [some (.ref (zQ X 37)), some (.ref x), some (.ref (x + 261)), some (.ref (x + 273)), some (.ref (x + 274)), some (.int (nI i)), m6, m7, l8] [] s) : zW X mL_law 12 (bc + 1) (bs + 6) Q 1300 [some (.ref (zQ X 37)), some (.ref x), some (.ref (x + 261)), some (.ref (x + 273)), some (.ref (x + 274)), some (.int (nI i)), l6, l7, l8] [] σ := by
  have hs2 : zsL X = X.2.2.2.2.2.1 := rfl
  obtain ⟨cd, hI⟩ : ∃ cd, zIv x (x + 261) cd σ := hI0.elim (fun h => ⟨_, h⟩) id
  obtain ⟨fs, hx⟩ := hI.ox
  obtain ⟨Fo, hyo, -⟩ := hI.oy
  obtain ⟨⟨A, S, m, U, n, T, ll, ln, hs1, kf, ld, dt, dc⟩, hK, hM, hL⟩ := hI
  refine zr_aload_n dL_law_1300 rfl ?_
  refine zr_aload_n dL_law_1301 rfl ?_
  refine zr_iload dL_law_1302 rfl ?_
  refine zr_iconst (v := 1) dL_law_1304 (by decide) ?_
  refine zr_iadd dL_law_1305 ?_
  refine zr_eqi (x' := nI (i + 1)) (nI_add i 1) ?_
  refine zr_sat dL_law_1306 (vp_in_nI (n := i + 1) (by omega) (by omega)) ?_
  rw [nI_clamp (n := i + 1) (by omega)]
  refine zr_aload_n dL_law_1307 rfl ?_
  refine zr_iload dL_law_1308 rfl ?_
  refine zr_iconst (v := 2) dL_law_1310 (by decide) ?_
  refine zr_iadd dL_law_1311 ?_
  refine zr_eqi (x' := nI (i + 2)) (nI_add i 2) ?_
  refine zr_sat dL_law_1312 (vp_in_nI (n := i + 2) (by omega) (by omega)) ?_
  rw [nI_clamp (n := i + 2) (by omega)]
  refine zr_aload_n dL_law_1313 rfl ?_
  have hsm := sem_areEqual hX hK hM hL hN hQ (X.2.2.2.2.2.2 (i + 1)) (X.2.2.2.2.2.2 (i + 2))
  rcases hsm with ⟨v, d1, mc, ms, Qs, d9, m1, m6, hc, hr⟩ | ⟨E, k, d1, mc, ms, Qs, hk, d9, m1, m6, hc, hr⟩
  · refine zr_callH (rest := []) dL_law_1314 vL_232 (wOK_areEqual hX hc hx (fun s2 hq => zFr.get (hr s2 hq).1 (by unfold zXr; omega) ho)) (by omega) (by omega) (by omega) rfl rfl (Nat.le_of_ble_eq_true rfl) rfl (fun v2 s1 h_ => ?_) (fun E1 s1 h_ => by obtain ⟨r, e, -⟩ := h_; cases e)
    obtain ⟨r, e, e2, s2, hq, et⟩ := h_
    cases e
    rw [e2]
    have F0 := (hr _ hq).1
    have hy0 := zFr.get F0 (by unfold zXr; omega) hyo
    have Ft : zFr s2 s1 (zOu x) := by rw [et]; exact ⟨rfl, fun a ha => zup_ne _ _ (fun z => ha (by unfold zOu; omega))⟩
    obtain ⟨d2, d29, hr2⟩ := (hr _ hq).2 s1 Ft
    have hy := zFr.get Ft (by unfold zOu; omega) hy0
    have F1 : zFr σ s1 (fun q => x ≤ q ∧ q < x + 274) := zFr.tr (F0.w (fun q hq => by unfold zXr at hq; omega)) (P := fun q => x ≤ q ∧ q < x + 274) (show zFr s2 s1 (fun q => x ≤ q ∧ q < x + 274) from by rw [et]; exact ⟨rfl, fun a ha => zup_ne _ _ (fun z => ha (by omega))⟩) (fun q hq => hq)
    have ko : s1.1 (x + 273) = .inl (3, 1, .inr (.inl (vp_updL f 0 (if v = 0 then 0 else 1)))) := by rw [et]; exact zup_at _ _ _
    refine zr_istore (ls' := [some (.ref ((zQ X 37))), some (.ref x), some (.ref ((x + 261))), some (.ref ((x + 273))), some (.ref ((x + 274))), some (.int (nI i)), some (.int 0), l7, l8]) dL_law_1317 (by decide) rfl ?_
    refine zr_aload_n dL_law_1319 rfl ?_
    refine zr_aload_n dL_law_1320 rfl ?_
    refine zr_iload dL_law_1321 rfl ?_
    refine zr_iconst (v := 1) dL_law_1323 (by decide) ?_
    refine zr_iadd dL_law_1324 ?_
    refine zr_eqi (x' := nI (i + 1)) (nI_add i 1) ?_
    refine zr_sat dL_law_1325 (vp_in_nI (n := i + 1) (by omega) (by omega)) ?_
    rw [nI_clamp (n := i + 1) (by omega)]
    refine zr_aload_n dL_law_1326 rfl ?_
    refine zr_iload dL_law_1327 rfl ?_
    refine zr_iconst (v := 2) dL_law_1329 (by decide) ?_
    refine zr_iadd dL_law_1330 ?_
    refine zr_eqi (x' := nI (i + 2)) (nI_add i 2) ?_
    refine zr_sat dL_law_1331 (vp_in_nI (n := i + 2) (by omega) (by omega)) ?_
    rw [nI_clamp (n := i + 2) (by omega)]
    refine zr_callVi (rest := []) dL_law_1332 vL_234 hr2 hy (by omega) (by omega) (by omega) rfl rfl (Nat.le_of_ble_eq_true rfl) (by decide) rfl (fun r3 u h3 => ?_)
    obtain ⟨er, F2, hI⟩ := h3
    rw [er]
    have F3 : zFr σ u (fun q => x ≤ q ∧ q < x + 274) := zFr.tr F1 F2 (fun q hq => by unfold zMr at hq; omega)
    have ko2 := zFr.get F2 (by unfold zMr; omega) ko
    obtain ⟨F8, h8, e8⟩ := hI.oy
    refine zr_istore (ls' := [some (.ref ((zQ X 37))), some (.ref x), some (.ref ((x + 261))), some (.ref ((x + 273))), some (.ref ((x + 274))), some (.int (nI i)), some (.int 0), some (.int v), l8]) dL_law_1335 (by decide) rfl ?_
    refine zr_aload_n dL_law_1337 rfl ?_
    refine zr_pVi (rest := []) dL_law_1338 vL_173 (qX10_thrown hX h8) h8 (by omega) (by omega) (by omega) rfl rfl (Nat.le_of_ble_eq_true rfl) (by decide) rfl ?_
    refine zr_eqi (x' := 0) e8 ?_
    refine zr_iload dL_law_1341 rfl ?_
    refine zr_icmp_eq (tgt := 1348) dL_law_1343 (by decide) (fun c_1343 => ?_) (fun c_1343 => absurd (by decide) c_1343)
    refine zr_iload dL_law_1348 rfl ?_
    refine zr_if_ne (tgt := 1372) dL_law_1350 (by decide) (fun c_1350 => absurd (by decide) c_1350) (fun c_1350 => ?_)
    refine zr_aload_n dL_law_1353 rfl ?_
    refine zr_iconst (v := 0) dL_law_1354 (by decide) ?_
    refine zr_laload dL_law_1355 ko2 (vp_in_nI (n := 0) (by omega) (by omega)) ?_
    rw [show (0 : Int32).toNatClampNeg = 0 from by decide]
    refine zr_eql (x' := (if v = 0 then 0 else 1)) (by unfold vp_updL; rw [if_pos rfl]) ?_
    refine zr_iload dL_law_1356 rfl ?_
    refine zr_if_eq (tgt := 1365) dL_law_1358 (by decide) (fun c_1358 => ?_) (fun c_1358 => ?_)
    · refine zr_lconst (v := 0) dL_law_1365 (by decide) ?_
      refine zr_lcmp dL_law_1366 ?_
      refine zr_eqi (x' := 0) (by rw [if_pos c_1358]; exact lcmp_self _) ?_
      refine zr_if_eq (tgt := 1372) dL_law_1367 (by decide) (fun c_1367 => ?_) (fun c_1367 => absurd (by decide) c_1367)
      refine zr_goto (tgt := 2861) dL_law_1372 (by decide) ?_
      exact zr_less (by omega) (by omega) (kk u _ _ _ _ hI F3 ko2)
    · refine zr_lconst (v := 1) dL_law_1361 (by decide) ?_
      refine zr_goto (tgt := 1366) dL_law_1362 (by decide) ?_
      refine zr_lcmp dL_law_1366 ?_
      refine zr_eqi (x' := 0) (by rw [if_neg c_1358]; exact lcmp_self _) ?_
      refine zr_if_eq (tgt := 1372) dL_law_1367 (by decide) (fun c_1367 => ?_) (fun c_1367 => absurd (by decide) c_1367)
      refine zr_goto (tgt := 2861) dL_law_1372 (by decide) ?_
      exact zr_less (by omega) (by omega) (kk u _ _ _ _ hI F3 ko2)
  · skip
    rcases List.mem_cons.mp hk with ek | hk
    · cases ek
      refine zr_callH (rest := []) dL_law_1314 vL_232 (wN1_areEqual hX hc hx) (by omega) (by omega) (by omega) rfl rfl (Nat.le_of_ble_eq_true rfl) rfl (fun v2 s1 h_ => ?_) (fun E1 s1 h_ => by obtain ⟨r, e, -⟩ := h_; cases e)
      obtain ⟨r, e, e2, hq⟩ := h_
      cases e
      rw [e2]
      have F0 := (hr _ hq).1
      have hy0 := zFr.get F0 (by unfold zXr; omega) hyo
      obtain ⟨d2, d29, hr2⟩ := (hr _ hq).2 s1 zFr.rf
      have hy := hy0
      have F1 : zFr σ s1 (fun q => x ≤ q ∧ q < x + 274) := F0.w (fun q hq => by unfold zXr at hq; omega)
      have ko := zFr.get F0 (by unfold zXr; omega) ho
      refine zr_istore (ls' := [some (.ref ((zQ X 37))), some (.ref x), some (.ref ((x + 261))), some (.ref ((x + 273))), some (.ref ((x + 274))), some (.int (nI i)), some (.int 1), l7, l8]) dL_law_1317 (by decide) rfl ?_
      refine zr_aload_n dL_law_1319 rfl ?_
      refine zr_aload_n dL_law_1320 rfl ?_
      refine zr_iload dL_law_1321 rfl ?_
      refine zr_iconst (v := 1) dL_law_1323 (by decide) ?_
      refine zr_iadd dL_law_1324 ?_
      refine zr_eqi (x' := nI (i + 1)) (nI_add i 1) ?_
      refine zr_sat dL_law_1325 (vp_in_nI (n := i + 1) (by omega) (by omega)) ?_
      rw [nI_clamp (n := i + 1) (by omega)]
      refine zr_aload_n dL_law_1326 rfl ?_
      refine zr_iload dL_law_1327 rfl ?_
      refine zr_iconst (v := 2) dL_law_1329 (by decide) ?_
      refine zr_iadd dL_law_1330 ?_
      refine zr_eqi (x' := nI (i + 2)) (nI_add i 2) ?_
      refine zr_sat dL_law_1331 (vp_in_nI (n := i + 2) (by omega) (by omega)) ?_
      rw [nI_clamp (n := i + 2) (by omega)]
      refine zr_callVi (rest := []) dL_law_1332 vL_234 hr2 hy (by omega) (by omega) (by omega) rfl rfl (Nat.le_of_ble_eq_true rfl) (by decide) rfl (fun r3 u h3 => ?_)
      obtain ⟨er, F2, hI⟩ := h3
      have F3 : zFr σ u (fun q => x ≤ q ∧ q < x + 274) := zFr.tr F1 F2 (fun q hq => by unfold zMr at hq; omega)
      have ko2 := zFr.get F2 (by unfold zMr; omega) ko
      obtain ⟨F8, h8, e8⟩ := hI.oy
      refine zr_istore (ls' := [some (.ref ((zQ X 37))), some (.ref x), some (.ref ((x + 261))), some (.ref ((x + 273))), some (.ref ((x + 274))), some (.int (nI i)), some (.int 1), some (.int r3), l8]) dL_law_1335 (by decide) rfl ?_
      refine zr_aload_n dL_law_1337 rfl ?_
      refine zr_pVi (rest := []) dL_law_1338 vL_173 (qX10_thrown hX h8) h8 (by omega) (by omega) (by omega) rfl rfl (Nat.le_of_ble_eq_true rfl) (by decide) rfl ?_
      refine zr_eqi (x' := 1) e8 ?_
      refine zr_iload dL_law_1341 rfl ?_
      refine zr_icmp_eq (tgt := 1348) dL_law_1343 (by decide) (fun c_1343 => ?_) (fun c_1343 => absurd (by decide) c_1343)
      refine zr_iload dL_law_1348 rfl ?_
      refine zr_if_ne (tgt := 1372) dL_law_1350 (by decide) (fun c_1350 => ?_) (fun c_1350 => absurd c_1350 (by decide))
      refine zr_goto (tgt := 2861) dL_law_1372 (by decide) ?_
      exact zr_less (by omega) (by omega) (kk u _ _ _ _ hI F3 ko2)
    · skip
      rcases List.mem_cons.mp hk with ek | hk
      · cases ek
        refine zr_callH (rest := []) dL_law_1314 vL_232 (wN2_areEqual hX hc hx) (by omega) (by omega) (by omega) rfl rfl (Nat.le_of_ble_eq_true rfl) rfl (fun v2 s1 h_ => ?_) (fun E1 s1 h_ => by obtain ⟨r, e, -⟩ := h_; cases e)
        obtain ⟨r, e, e2, hq⟩ := h_
        cases e
        rw [e2]
        have F0 := (hr _ hq).1
        have hy0 := zFr.get F0 (by unfold zXr; omega) hyo
        obtain ⟨d2, d29, hr2⟩ := (hr _ hq).2 s1 zFr.rf
        have hy := hy0
        have F1 : zFr σ s1 (fun q => x ≤ q ∧ q < x + 274) := F0.w (fun q hq => by unfold zXr at hq; omega)
        have ko := zFr.get F0 (by unfold zXr; omega) ho
        refine zr_istore (ls' := [some (.ref ((zQ X 37))), some (.ref x), some (.ref ((x + 261))), some (.ref ((x + 273))), some (.ref ((x + 274))), some (.int (nI i)), some (.int 2), l7, l8]) dL_law_1317 (by decide) rfl ?_
        refine zr_aload_n dL_law_1319 rfl ?_
        refine zr_aload_n dL_law_1320 rfl ?_
        refine zr_iload dL_law_1321 rfl ?_
        refine zr_iconst (v := 1) dL_law_1323 (by decide) ?_
        refine zr_iadd dL_law_1324 ?_
        refine zr_eqi (x' := nI (i + 1)) (nI_add i 1) ?_
        refine zr_sat dL_law_1325 (vp_in_nI (n := i + 1) (by omega) (by omega)) ?_
        rw [nI_clamp (n := i + 1) (by omega)]
        refine zr_aload_n dL_law_1326 rfl ?_
        refine zr_iload dL_law_1327 rfl ?_
        refine zr_iconst (v := 2) dL_law_1329 (by decide) ?_
        refine zr_iadd dL_law_1330 ?_
        refine zr_eqi (x' := nI (i + 2)) (nI_add i 2) ?_
        refine zr_sat dL_law_1331 (vp_in_nI (n := i + 2) (by omega) (by omega)) ?_
        rw [nI_clamp (n := i + 2) (by omega)]
        refine zr_callVi (rest := []) dL_law_1332 vL_234 hr2 hy (by omega) (by omega) (by omega) rfl rfl (Nat.le_of_ble_eq_true rfl) (by decide) rfl (fun r3 u h3 => ?_)
        obtain ⟨er, F2, hI⟩ := h3
        have F3 : zFr σ u (fun q => x ≤ q ∧ q < x + 274) := zFr.tr F1 F2 (fun q hq => by unfold zMr at hq; omega)
        have ko2 := zFr.get F2 (by unfold zMr; omega) ko
        obtain ⟨F8, h8, e8⟩ := hI.oy
        refine zr_istore (ls' := [some (.ref ((zQ X 37))), some (.ref x), some (.ref ((x + 261))), some (.ref ((x + 273))), some (.ref ((x + 274))), some (.int (nI i)), some (.int 2), some (.int r3), l8]) dL_law_1335 (by decide) rfl ?_
        refine zr_aload_n dL_law_1337 rfl ?_
        refine zr_pVi (rest := []) dL_law_1338 vL_173 (qX10_thrown hX h8) h8 (by omega) (by omega) (by omega) rfl rfl (Nat.le_of_ble_eq_true rfl) (by decide) rfl ?_
        refine zr_eqi (x' := 2) e8 ?_
        refine zr_iload dL_law_1341 rfl ?_
        refine zr_icmp_eq (tgt := 1348) dL_law_1343 (by decide) (fun c_1343 => ?_) (fun c_1343 => absurd (by decide) c_1343)
        refine zr_iload dL_law_1348 rfl ?_
        refine zr_if_ne (tgt := 1372) dL_law_1350 (by decide) (fun c_1350 => ?_) (fun c_1350 => absurd c_1350 (by decide))
        refine zr_goto (tgt := 2861) dL_law_1372 (by decide) ?_
        exact zr_less (by omega) (by omega) (kk u _ _ _ _ hI F3 ko2)
      · skip
        cases hk

set_option maxHeartbeats 400000 in
set_option maxRecDepth 100000 in
theorem blk_areEqualByCoordinates {X : zX} (hX : X.1.stackTraces = false) {Q : zO → zS → Prop} {σ : zS} {x i bc bs : Nat} {l6 l7 l8 : Option Value} {f : Nat → Int64} (hQ : ∀ i j : Nat, i < 7 → j < 7 → zQ X i = zQ X j → i = j) (hi : i + 4 ≤ zsL X) (hs : zsL X < 2 ^ 31) (hI0 : zIv x (x + 261) 0 σ ∨ ∃ cd, zIv x (x + 261) cd σ) (hN : σ.2 = none) (ho : σ.1 (x + 273) = .inl (3, 1, .inr (.inl f))) (kk : ∀ (s : zS) (cd : Int32) (f2 : Nat → Int64) (m6 m7 : Option Value), zIv x (x + 261) cd s → zFr σ s (fun q => x ≤ q ∧ q < x + 274) → s.1 (x + 273) = .inl (3, 1, .inr (.inl f2)) → zW X mL_law 12 bc bs Q 2861 [some (.ref (zQ X 37)), some (.ref x), some (.ref (x + 261)), some (.ref (x + 273)), some (.ref (x + 274)), some (.int (nI i)), m6, m7, l8] [] s) : zW X mL_law 12 (bc + 1) (bs + 6) Q 1375 [some (.ref (zQ X 37)), some (.ref x), some (.ref (x + 261)), some (.ref (x + 273)), some (.ref (x + 274)), some (.int (nI i)), l6, l7, l8] [] σ := by
  have hs2 : zsL X = X.2.2.2.2.2.1 := rfl
  obtain ⟨cd, hI⟩ : ∃ cd, zIv x (x + 261) cd σ := hI0.elim (fun h => ⟨_, h⟩) id
  obtain ⟨fs, hx⟩ := hI.ox
  obtain ⟨Fo, hyo, -⟩ := hI.oy
  obtain ⟨⟨A, S, m, U, n, T, ll, ln, hs1, kf, ld, dt, dc⟩, hK, hM, hL⟩ := hI
  refine zr_aload_n dL_law_1375 rfl ?_
  refine zr_aload_n dL_law_1376 rfl ?_
  refine zr_iload dL_law_1377 rfl ?_
  refine zr_iconst (v := 1) dL_law_1379 (by decide) ?_
  refine zr_iadd dL_law_1380 ?_
  refine zr_eqi (x' := nI (i + 1)) (nI_add i 1) ?_
  refine zr_sat dL_law_1381 (vp_in_nI (n := i + 1) (by omega) (by omega)) ?_
  rw [nI_clamp (n := i + 1) (by omega)]
  refine zr_aload_n dL_law_1382 rfl ?_
  refine zr_iload dL_law_1383 rfl ?_
  refine zr_iconst (v := 2) dL_law_1385 (by decide) ?_
  refine zr_iadd dL_law_1386 ?_
  refine zr_eqi (x' := nI (i + 2)) (nI_add i 2) ?_
  refine zr_sat dL_law_1387 (vp_in_nI (n := i + 2) (by omega) (by omega)) ?_
  rw [nI_clamp (n := i + 2) (by omega)]
  refine zr_aload_n dL_law_1388 rfl ?_
  have hsm := sem_areEqualByCoordinates hX hK hM hL hN hQ (X.2.2.2.2.2.2 (i + 1)) (X.2.2.2.2.2.2 (i + 2))
  rcases hsm with ⟨v, d1, mc, ms, Qs, d9, m1, m6, hc, hr⟩ | ⟨E, k, d1, mc, ms, Qs, hk, d9, m1, m6, hc, hr⟩
  · refine zr_callH (rest := []) dL_law_1389 vL_235 (wOK_areEqualByCoordinates hX hc hx (fun s2 hq => zFr.get (hr s2 hq).1 (by unfold zXr; omega) ho)) (by omega) (by omega) (by omega) rfl rfl (Nat.le_of_ble_eq_true rfl) rfl (fun v2 s1 h_ => ?_) (fun E1 s1 h_ => by obtain ⟨r, e, -⟩ := h_; cases e)
    obtain ⟨r, e, e2, s2, hq, et⟩ := h_
    cases e
    rw [e2]
    have F0 := (hr _ hq).1
    have hy0 := zFr.get F0 (by unfold zXr; omega) hyo
    have Ft : zFr s2 s1 (zOu x) := by rw [et]; exact ⟨rfl, fun a ha => zup_ne _ _ (fun z => ha (by unfold zOu; omega))⟩
    obtain ⟨d2, d29, hr2⟩ := (hr _ hq).2 s1 Ft
    have hy := zFr.get Ft (by unfold zOu; omega) hy0
    have F1 : zFr σ s1 (fun q => x ≤ q ∧ q < x + 274) := zFr.tr (F0.w (fun q hq => by unfold zXr at hq; omega)) (P := fun q => x ≤ q ∧ q < x + 274) (show zFr s2 s1 (fun q => x ≤ q ∧ q < x + 274) from by rw [et]; exact ⟨rfl, fun a ha => zup_ne _ _ (fun z => ha (by omega))⟩) (fun q hq => hq)
    have ko : s1.1 (x + 273) = .inl (3, 1, .inr (.inl (vp_updL f 0 (if v = 0 then 0 else 1)))) := by rw [et]; exact zup_at _ _ _
    refine zr_istore (ls' := [some (.ref ((zQ X 37))), some (.ref x), some (.ref ((x + 261))), some (.ref ((x + 273))), some (.ref ((x + 274))), some (.int (nI i)), some (.int 0), l7, l8]) dL_law_1392 (by decide) rfl ?_
    refine zr_aload_n dL_law_1394 rfl ?_
    refine zr_aload_n dL_law_1395 rfl ?_
    refine zr_iload dL_law_1396 rfl ?_
    refine zr_iconst (v := 1) dL_law_1398 (by decide) ?_
    refine zr_iadd dL_law_1399 ?_
    refine zr_eqi (x' := nI (i + 1)) (nI_add i 1) ?_
    refine zr_sat dL_law_1400 (vp_in_nI (n := i + 1) (by omega) (by omega)) ?_
    rw [nI_clamp (n := i + 1) (by omega)]
    refine zr_aload_n dL_law_1401 rfl ?_
    refine zr_iload dL_law_1402 rfl ?_
    refine zr_iconst (v := 2) dL_law_1404 (by decide) ?_
    refine zr_iadd dL_law_1405 ?_
    refine zr_eqi (x' := nI (i + 2)) (nI_add i 2) ?_
    refine zr_sat dL_law_1406 (vp_in_nI (n := i + 2) (by omega) (by omega)) ?_
    rw [nI_clamp (n := i + 2) (by omega)]
    refine zr_callVi (rest := []) dL_law_1407 vL_237 hr2 hy (by omega) (by omega) (by omega) rfl rfl (Nat.le_of_ble_eq_true rfl) (by decide) rfl (fun r3 u h3 => ?_)
    obtain ⟨er, F2, hI⟩ := h3
    rw [er]
    have F3 : zFr σ u (fun q => x ≤ q ∧ q < x + 274) := zFr.tr F1 F2 (fun q hq => by unfold zMr at hq; omega)
    have ko2 := zFr.get F2 (by unfold zMr; omega) ko
    obtain ⟨F8, h8, e8⟩ := hI.oy
    refine zr_istore (ls' := [some (.ref ((zQ X 37))), some (.ref x), some (.ref ((x + 261))), some (.ref ((x + 273))), some (.ref ((x + 274))), some (.int (nI i)), some (.int 0), some (.int v), l8]) dL_law_1410 (by decide) rfl ?_
    refine zr_aload_n dL_law_1412 rfl ?_
    refine zr_pVi (rest := []) dL_law_1413 vL_173 (qX10_thrown hX h8) h8 (by omega) (by omega) (by omega) rfl rfl (Nat.le_of_ble_eq_true rfl) (by decide) rfl ?_
    refine zr_eqi (x' := 0) e8 ?_
    refine zr_iload dL_law_1416 rfl ?_
    refine zr_icmp_eq (tgt := 1423) dL_law_1418 (by decide) (fun c_1418 => ?_) (fun c_1418 => absurd (by decide) c_1418)
    refine zr_iload dL_law_1423 rfl ?_
    refine zr_if_ne (tgt := 1447) dL_law_1425 (by decide) (fun c_1425 => absurd (by decide) c_1425) (fun c_1425 => ?_)
    refine zr_aload_n dL_law_1428 rfl ?_
    refine zr_iconst (v := 0) dL_law_1429 (by decide) ?_
    refine zr_laload dL_law_1430 ko2 (vp_in_nI (n := 0) (by omega) (by omega)) ?_
    rw [show (0 : Int32).toNatClampNeg = 0 from by decide]
    refine zr_eql (x' := (if v = 0 then 0 else 1)) (by unfold vp_updL; rw [if_pos rfl]) ?_
    refine zr_iload dL_law_1431 rfl ?_
    refine zr_if_eq (tgt := 1440) dL_law_1433 (by decide) (fun c_1433 => ?_) (fun c_1433 => ?_)
    · refine zr_lconst (v := 0) dL_law_1440 (by decide) ?_
      refine zr_lcmp dL_law_1441 ?_
      refine zr_eqi (x' := 0) (by rw [if_pos c_1433]; exact lcmp_self _) ?_
      refine zr_if_eq (tgt := 1447) dL_law_1442 (by decide) (fun c_1442 => ?_) (fun c_1442 => absurd (by decide) c_1442)
      refine zr_goto (tgt := 2861) dL_law_1447 (by decide) ?_
      exact zr_less (by omega) (by omega) (kk u _ _ _ _ hI F3 ko2)
    · refine zr_lconst (v := 1) dL_law_1436 (by decide) ?_
      refine zr_goto (tgt := 1441) dL_law_1437 (by decide) ?_
      refine zr_lcmp dL_law_1441 ?_
      refine zr_eqi (x' := 0) (by rw [if_neg c_1433]; exact lcmp_self _) ?_
      refine zr_if_eq (tgt := 1447) dL_law_1442 (by decide) (fun c_1442 => ?_) (fun c_1442 => absurd (by decide) c_1442)
      refine zr_goto (tgt := 2861) dL_law_1447 (by decide) ?_
      exact zr_less (by omega) (by omega) (kk u _ _ _ _ hI F3 ko2)
  · skip
    rcases List.mem_cons.mp hk with ek | hk
    · cases ek
      refine zr_callH (rest := []) dL_law_1389 vL_235 (wN1_areEqualByCoordinates hX hc hx) (by omega) (by omega) (by omega) rfl rfl (Nat.le_of_ble_eq_true rfl) rfl (fun v2 s1 h_ => ?_) (fun E1 s1 h_ => by obtain ⟨r, e, -⟩ := h_; cases e)
      obtain ⟨r, e, e2, hq⟩ := h_
      cases e
      rw [e2]
      have F0 := (hr _ hq).1
      have hy0 := zFr.get F0 (by unfold zXr; omega) hyo
      obtain ⟨d2, d29, hr2⟩ := (hr _ hq).2 s1 zFr.rf
      have hy := hy0
      have F1 : zFr σ s1 (fun q => x ≤ q ∧ q < x + 274) := F0.w (fun q hq => by unfold zXr at hq; omega)
      have ko := zFr.get F0 (by unfold zXr; omega) ho
      refine zr_istore (ls' := [some (.ref ((zQ X 37))), some (.ref x), some (.ref ((x + 261))), some (.ref ((x + 273))), some (.ref ((x + 274))), some (.int (nI i)), some (.int 1), l7, l8]) dL_law_1392 (by decide) rfl ?_
      refine zr_aload_n dL_law_1394 rfl ?_
      refine zr_aload_n dL_law_1395 rfl ?_
      refine zr_iload dL_law_1396 rfl ?_
      refine zr_iconst (v := 1) dL_law_1398 (by decide) ?_
      refine zr_iadd dL_law_1399 ?_
      refine zr_eqi (x' := nI (i + 1)) (nI_add i 1) ?_
      refine zr_sat dL_law_1400 (vp_in_nI (n := i + 1) (by omega) (by omega)) ?_
      rw [nI_clamp (n := i + 1) (by omega)]
      refine zr_aload_n dL_law_1401 rfl ?_
      refine zr_iload dL_law_1402 rfl ?_
      refine zr_iconst (v := 2) dL_law_1404 (by decide) ?_
      refine zr_iadd dL_law_1405 ?_
      refine zr_eqi (x' := nI (i + 2)) (nI_add i 2) ?_
      refine zr_sat dL_law_1406 (vp_in_nI (n := i + 2) (by omega) (by omega)) ?_
      rw [nI_clamp (n := i + 2) (by omega)]
      refine zr_callVi (rest := []) dL_law_1407 vL_237 hr2 hy (by omega) (by omega) (by omega) rfl rfl (Nat.le_of_ble_eq_true rfl) (by decide) rfl (fun r3 u h3 => ?_)
      obtain ⟨er, F2, hI⟩ := h3
      have F3 : zFr σ u (fun q => x ≤ q ∧ q < x + 274) := zFr.tr F1 F2 (fun q hq => by unfold zMr at hq; omega)
      have ko2 := zFr.get F2 (by unfold zMr; omega) ko
      obtain ⟨F8, h8, e8⟩ := hI.oy
      refine zr_istore (ls' := [some (.ref ((zQ X 37))), some (.ref x), some (.ref ((x + 261))), some (.ref ((x + 273))), some (.ref ((x + 274))), some (.int (nI i)), some (.int 1), some (.int r3), l8]) dL_law_1410 (by decide) rfl ?_
      refine zr_aload_n dL_law_1412 rfl ?_
      refine zr_pVi (rest := []) dL_law_1413 vL_173 (qX10_thrown hX h8) h8 (by omega) (by omega) (by omega) rfl rfl (Nat.le_of_ble_eq_true rfl) (by decide) rfl ?_
      refine zr_eqi (x' := 1) e8 ?_
      refine zr_iload dL_law_1416 rfl ?_
      refine zr_icmp_eq (tgt := 1423) dL_law_1418 (by decide) (fun c_1418 => ?_) (fun c_1418 => absurd (by decide) c_1418)
      refine zr_iload dL_law_1423 rfl ?_
      refine zr_if_ne (tgt := 1447) dL_law_1425 (by decide) (fun c_1425 => ?_) (fun c_1425 => absurd c_1425 (by decide))
      refine zr_goto (tgt := 2861) dL_law_1447 (by decide) ?_
      exact zr_less (by omega) (by omega) (kk u _ _ _ _ hI F3 ko2)
    · skip
      cases hk

set_option maxHeartbeats 400000 in
set_option maxRecDepth 100000 in
theorem blk_compare {X : zX} (hX : X.1.stackTraces = false) {Q : zO → zS → Prop} {σ : zS} {x i bc bs : Nat} {l6 l7 l8 : Option Value} {f : Nat → Int64} (hQ : ∀ i j : Nat, i < 7 → j < 7 → zQ X i = zQ X j → i = j) (hi : i + 4 ≤ zsL X) (hs : zsL X < 2 ^ 31) (hI0 : zIv x (x + 261) 0 σ ∨ ∃ cd, zIv x (x + 261) cd σ) (hN : σ.2 = none) (ho : σ.1 (x + 273) = .inl (3, 1, .inr (.inl f))) (kk : ∀ (s : zS) (cd : Int32) (f2 : Nat → Int64) (m6 m7 : Option Value), zIv x (x + 261) cd s → zFr σ s (fun q => x ≤ q ∧ q < x + 274) → s.1 (x + 273) = .inl (3, 1, .inr (.inl f2)) → zW X mL_law 12 bc bs Q 2861 [some (.ref (zQ X 37)), some (.ref x), some (.ref (x + 261)), some (.ref (x + 273)), some (.ref (x + 274)), some (.int (nI i)), m6, m7, l8] [] s) : zW X mL_law 12 (bc + 1) (bs + 6) Q 1450 [some (.ref (zQ X 37)), some (.ref x), some (.ref (x + 261)), some (.ref (x + 273)), some (.ref (x + 274)), some (.int (nI i)), l6, l7, l8] [] σ := by
  have hs2 : zsL X = X.2.2.2.2.2.1 := rfl
  obtain ⟨cd, hI⟩ : ∃ cd, zIv x (x + 261) cd σ := hI0.elim (fun h => ⟨_, h⟩) id
  obtain ⟨fs, hx⟩ := hI.ox
  obtain ⟨Fo, hyo, -⟩ := hI.oy
  obtain ⟨⟨A, S, m, U, n, T, ll, ln, hs1, kf, ld, dt, dc⟩, hK, hM, hL⟩ := hI
  refine zr_aload_n dL_law_1450 rfl ?_
  refine zr_aload_n dL_law_1451 rfl ?_
  refine zr_iload dL_law_1452 rfl ?_
  refine zr_iconst (v := 1) dL_law_1454 (by decide) ?_
  refine zr_iadd dL_law_1455 ?_
  refine zr_eqi (x' := nI (i + 1)) (nI_add i 1) ?_
  refine zr_sat dL_law_1456 (vp_in_nI (n := i + 1) (by omega) (by omega)) ?_
  rw [nI_clamp (n := i + 1) (by omega)]
  refine zr_aload_n dL_law_1457 rfl ?_
  refine zr_iload dL_law_1458 rfl ?_
  refine zr_iconst (v := 2) dL_law_1460 (by decide) ?_
  refine zr_iadd dL_law_1461 ?_
  refine zr_eqi (x' := nI (i + 2)) (nI_add i 2) ?_
  refine zr_sat dL_law_1462 (vp_in_nI (n := i + 2) (by omega) (by omega)) ?_
  rw [nI_clamp (n := i + 2) (by omega)]
  refine zr_aload_n dL_law_1463 rfl ?_
  have hsm := sem_compare hX hK hM hL hN hQ (X.2.2.2.2.2.2 (i + 1)) (X.2.2.2.2.2.2 (i + 2))
  rcases hsm with ⟨v, d1, mc, ms, Qs, d9, m1, m6, hc, hr⟩ | ⟨E, k, d1, mc, ms, Qs, hk, d9, m1, m6, hc, hr⟩
  · refine zr_callH (rest := []) dL_law_1464 vL_238 (wOK_compare hX hc hx (fun s2 hq => zFr.get (hr s2 hq).1 (by unfold zXr; omega) ho)) (by omega) (by omega) (by omega) rfl rfl (Nat.le_of_ble_eq_true rfl) rfl (fun v2 s1 h_ => ?_) (fun E1 s1 h_ => by obtain ⟨r, e, -⟩ := h_; cases e)
    obtain ⟨r, e, e2, s2, hq, et⟩ := h_
    cases e
    rw [e2]
    have F0 := (hr _ hq).1
    have hy0 := zFr.get F0 (by unfold zXr; omega) hyo
    have Ft : zFr s2 s1 (zOu x) := by rw [et]; exact ⟨rfl, fun a ha => zup_ne _ _ (fun z => ha (by unfold zOu; omega))⟩
    obtain ⟨d2, d29, hr2⟩ := (hr _ hq).2 s1 Ft
    have hy := zFr.get Ft (by unfold zOu; omega) hy0
    have F1 : zFr σ s1 (fun q => x ≤ q ∧ q < x + 274) := zFr.tr (F0.w (fun q hq => by unfold zXr at hq; omega)) (P := fun q => x ≤ q ∧ q < x + 274) (show zFr s2 s1 (fun q => x ≤ q ∧ q < x + 274) from by rw [et]; exact ⟨rfl, fun a ha => zup_ne _ _ (fun z => ha (by omega))⟩) (fun q hq => hq)
    have ko : s1.1 (x + 273) = .inl (3, 1, .inr (.inl (vp_updL f 0 v.toInt64))) := by rw [et]; exact zup_at _ _ _
    refine zr_istore (ls' := [some (.ref ((zQ X 37))), some (.ref x), some (.ref ((x + 261))), some (.ref ((x + 273))), some (.ref ((x + 274))), some (.int (nI i)), some (.int 0), l7, l8]) dL_law_1467 (by decide) rfl ?_
    refine zr_aload_n dL_law_1469 rfl ?_
    refine zr_aload_n dL_law_1470 rfl ?_
    refine zr_iload dL_law_1471 rfl ?_
    refine zr_iconst (v := 1) dL_law_1473 (by decide) ?_
    refine zr_iadd dL_law_1474 ?_
    refine zr_eqi (x' := nI (i + 1)) (nI_add i 1) ?_
    refine zr_sat dL_law_1475 (vp_in_nI (n := i + 1) (by omega) (by omega)) ?_
    rw [nI_clamp (n := i + 1) (by omega)]
    refine zr_aload_n dL_law_1476 rfl ?_
    refine zr_iload dL_law_1477 rfl ?_
    refine zr_iconst (v := 2) dL_law_1479 (by decide) ?_
    refine zr_iadd dL_law_1480 ?_
    refine zr_eqi (x' := nI (i + 2)) (nI_add i 2) ?_
    refine zr_sat dL_law_1481 (vp_in_nI (n := i + 2) (by omega) (by omega)) ?_
    rw [nI_clamp (n := i + 2) (by omega)]
    refine zr_callVi (rest := []) dL_law_1482 vL_240 hr2 hy (by omega) (by omega) (by omega) rfl rfl (Nat.le_of_ble_eq_true rfl) (by decide) rfl (fun r3 u h3 => ?_)
    obtain ⟨er, F2, hI⟩ := h3
    rw [er]
    have F3 : zFr σ u (fun q => x ≤ q ∧ q < x + 274) := zFr.tr F1 F2 (fun q hq => by unfold zMr at hq; omega)
    have ko2 := zFr.get F2 (by unfold zMr; omega) ko
    obtain ⟨F8, h8, e8⟩ := hI.oy
    refine zr_istore (ls' := [some (.ref ((zQ X 37))), some (.ref x), some (.ref ((x + 261))), some (.ref ((x + 273))), some (.ref ((x + 274))), some (.int (nI i)), some (.int 0), some (.int v), l8]) dL_law_1485 (by decide) rfl ?_
    refine zr_aload_n dL_law_1487 rfl ?_
    refine zr_pVi (rest := []) dL_law_1488 vL_173 (qX10_thrown hX h8) h8 (by omega) (by omega) (by omega) rfl rfl (Nat.le_of_ble_eq_true rfl) (by decide) rfl ?_
    refine zr_eqi (x' := 0) e8 ?_
    refine zr_iload dL_law_1491 rfl ?_
    refine zr_icmp_eq (tgt := 1498) dL_law_1493 (by decide) (fun c_1493 => ?_) (fun c_1493 => absurd (by decide) c_1493)
    refine zr_iload dL_law_1498 rfl ?_
    refine zr_if_ne (tgt := 1515) dL_law_1500 (by decide) (fun c_1500 => absurd (by decide) c_1500) (fun c_1500 => ?_)
    refine zr_aload_n dL_law_1503 rfl ?_
    refine zr_iconst (v := 0) dL_law_1504 (by decide) ?_
    refine zr_laload dL_law_1505 ko2 (vp_in_nI (n := 0) (by omega) (by omega)) ?_
    rw [show (0 : Int32).toNatClampNeg = 0 from by decide]
    refine zr_eql (x' := v.toInt64) (by unfold vp_updL; rw [if_pos rfl]) ?_
    refine zr_iload dL_law_1506 rfl ?_
    refine zr_i2l dL_law_1508 ?_
    refine zr_lcmp dL_law_1509 ?_
    refine zr_eqi (x' := 0) (lcmp_self _) ?_
    refine zr_if_eq (tgt := 1515) dL_law_1510 (by decide) (fun c_1510 => ?_) (fun c_1510 => absurd (by decide) c_1510)
    refine zr_goto (tgt := 2861) dL_law_1515 (by decide) ?_
    exact zr_less (by omega) (by omega) (kk u _ _ _ _ hI F3 ko2)
  · skip
    rcases List.mem_cons.mp hk with ek | hk
    · cases ek
      refine zr_callH (rest := []) dL_law_1464 vL_238 (wN1_compare hX hc hx) (by omega) (by omega) (by omega) rfl rfl (Nat.le_of_ble_eq_true rfl) rfl (fun v2 s1 h_ => ?_) (fun E1 s1 h_ => by obtain ⟨r, e, -⟩ := h_; cases e)
      obtain ⟨r, e, e2, hq⟩ := h_
      cases e
      rw [e2]
      have F0 := (hr _ hq).1
      have hy0 := zFr.get F0 (by unfold zXr; omega) hyo
      obtain ⟨d2, d29, hr2⟩ := (hr _ hq).2 s1 zFr.rf
      have hy := hy0
      have F1 : zFr σ s1 (fun q => x ≤ q ∧ q < x + 274) := F0.w (fun q hq => by unfold zXr at hq; omega)
      have ko := zFr.get F0 (by unfold zXr; omega) ho
      refine zr_istore (ls' := [some (.ref ((zQ X 37))), some (.ref x), some (.ref ((x + 261))), some (.ref ((x + 273))), some (.ref ((x + 274))), some (.int (nI i)), some (.int 1), l7, l8]) dL_law_1467 (by decide) rfl ?_
      refine zr_aload_n dL_law_1469 rfl ?_
      refine zr_aload_n dL_law_1470 rfl ?_
      refine zr_iload dL_law_1471 rfl ?_
      refine zr_iconst (v := 1) dL_law_1473 (by decide) ?_
      refine zr_iadd dL_law_1474 ?_
      refine zr_eqi (x' := nI (i + 1)) (nI_add i 1) ?_
      refine zr_sat dL_law_1475 (vp_in_nI (n := i + 1) (by omega) (by omega)) ?_
      rw [nI_clamp (n := i + 1) (by omega)]
      refine zr_aload_n dL_law_1476 rfl ?_
      refine zr_iload dL_law_1477 rfl ?_
      refine zr_iconst (v := 2) dL_law_1479 (by decide) ?_
      refine zr_iadd dL_law_1480 ?_
      refine zr_eqi (x' := nI (i + 2)) (nI_add i 2) ?_
      refine zr_sat dL_law_1481 (vp_in_nI (n := i + 2) (by omega) (by omega)) ?_
      rw [nI_clamp (n := i + 2) (by omega)]
      refine zr_callVi (rest := []) dL_law_1482 vL_240 hr2 hy (by omega) (by omega) (by omega) rfl rfl (Nat.le_of_ble_eq_true rfl) (by decide) rfl (fun r3 u h3 => ?_)
      obtain ⟨er, F2, hI⟩ := h3
      have F3 : zFr σ u (fun q => x ≤ q ∧ q < x + 274) := zFr.tr F1 F2 (fun q hq => by unfold zMr at hq; omega)
      have ko2 := zFr.get F2 (by unfold zMr; omega) ko
      obtain ⟨F8, h8, e8⟩ := hI.oy
      refine zr_istore (ls' := [some (.ref ((zQ X 37))), some (.ref x), some (.ref ((x + 261))), some (.ref ((x + 273))), some (.ref ((x + 274))), some (.int (nI i)), some (.int 1), some (.int r3), l8]) dL_law_1485 (by decide) rfl ?_
      refine zr_aload_n dL_law_1487 rfl ?_
      refine zr_pVi (rest := []) dL_law_1488 vL_173 (qX10_thrown hX h8) h8 (by omega) (by omega) (by omega) rfl rfl (Nat.le_of_ble_eq_true rfl) (by decide) rfl ?_
      refine zr_eqi (x' := 1) e8 ?_
      refine zr_iload dL_law_1491 rfl ?_
      refine zr_icmp_eq (tgt := 1498) dL_law_1493 (by decide) (fun c_1493 => ?_) (fun c_1493 => absurd (by decide) c_1493)
      refine zr_iload dL_law_1498 rfl ?_
      refine zr_if_ne (tgt := 1515) dL_law_1500 (by decide) (fun c_1500 => ?_) (fun c_1500 => absurd c_1500 (by decide))
      refine zr_goto (tgt := 2861) dL_law_1515 (by decide) ?_
      exact zr_less (by omega) (by omega) (kk u _ _ _ _ hI F3 ko2)
    · skip
      rcases List.mem_cons.mp hk with ek | hk
      · cases ek
        refine zr_callH (rest := []) dL_law_1464 vL_238 (wN2_compare hX hc hx) (by omega) (by omega) (by omega) rfl rfl (Nat.le_of_ble_eq_true rfl) rfl (fun v2 s1 h_ => ?_) (fun E1 s1 h_ => by obtain ⟨r, e, -⟩ := h_; cases e)
        obtain ⟨r, e, e2, hq⟩ := h_
        cases e
        rw [e2]
        have F0 := (hr _ hq).1
        have hy0 := zFr.get F0 (by unfold zXr; omega) hyo
        obtain ⟨d2, d29, hr2⟩ := (hr _ hq).2 s1 zFr.rf
        have hy := hy0
        have F1 : zFr σ s1 (fun q => x ≤ q ∧ q < x + 274) := F0.w (fun q hq => by unfold zXr at hq; omega)
        have ko := zFr.get F0 (by unfold zXr; omega) ho
        refine zr_istore (ls' := [some (.ref ((zQ X 37))), some (.ref x), some (.ref ((x + 261))), some (.ref ((x + 273))), some (.ref ((x + 274))), some (.int (nI i)), some (.int 2), l7, l8]) dL_law_1467 (by decide) rfl ?_
        refine zr_aload_n dL_law_1469 rfl ?_
        refine zr_aload_n dL_law_1470 rfl ?_
        refine zr_iload dL_law_1471 rfl ?_
        refine zr_iconst (v := 1) dL_law_1473 (by decide) ?_
        refine zr_iadd dL_law_1474 ?_
        refine zr_eqi (x' := nI (i + 1)) (nI_add i 1) ?_
        refine zr_sat dL_law_1475 (vp_in_nI (n := i + 1) (by omega) (by omega)) ?_
        rw [nI_clamp (n := i + 1) (by omega)]
        refine zr_aload_n dL_law_1476 rfl ?_
        refine zr_iload dL_law_1477 rfl ?_
        refine zr_iconst (v := 2) dL_law_1479 (by decide) ?_
        refine zr_iadd dL_law_1480 ?_
        refine zr_eqi (x' := nI (i + 2)) (nI_add i 2) ?_
        refine zr_sat dL_law_1481 (vp_in_nI (n := i + 2) (by omega) (by omega)) ?_
        rw [nI_clamp (n := i + 2) (by omega)]
        refine zr_callVi (rest := []) dL_law_1482 vL_240 hr2 hy (by omega) (by omega) (by omega) rfl rfl (Nat.le_of_ble_eq_true rfl) (by decide) rfl (fun r3 u h3 => ?_)
        obtain ⟨er, F2, hI⟩ := h3
        have F3 : zFr σ u (fun q => x ≤ q ∧ q < x + 274) := zFr.tr F1 F2 (fun q hq => by unfold zMr at hq; omega)
        have ko2 := zFr.get F2 (by unfold zMr; omega) ko
        obtain ⟨F8, h8, e8⟩ := hI.oy
        refine zr_istore (ls' := [some (.ref ((zQ X 37))), some (.ref x), some (.ref ((x + 261))), some (.ref ((x + 273))), some (.ref ((x + 274))), some (.int (nI i)), some (.int 2), some (.int r3), l8]) dL_law_1485 (by decide) rfl ?_
        refine zr_aload_n dL_law_1487 rfl ?_
        refine zr_pVi (rest := []) dL_law_1488 vL_173 (qX10_thrown hX h8) h8 (by omega) (by omega) (by omega) rfl rfl (Nat.le_of_ble_eq_true rfl) (by decide) rfl ?_
        refine zr_eqi (x' := 2) e8 ?_
        refine zr_iload dL_law_1491 rfl ?_
        refine zr_icmp_eq (tgt := 1498) dL_law_1493 (by decide) (fun c_1493 => ?_) (fun c_1493 => absurd (by decide) c_1493)
        refine zr_iload dL_law_1498 rfl ?_
        refine zr_if_ne (tgt := 1515) dL_law_1500 (by decide) (fun c_1500 => ?_) (fun c_1500 => absurd c_1500 (by decide))
        refine zr_goto (tgt := 2861) dL_law_1515 (by decide) ?_
        exact zr_less (by omega) (by omega) (kk u _ _ _ _ hI F3 ko2)
      · skip
        cases hk

set_option maxHeartbeats 400000 in
set_option maxRecDepth 100000 in
theorem blk_compareByCoordinates {X : zX} (hX : X.1.stackTraces = false) {Q : zO → zS → Prop} {σ : zS} {x i bc bs : Nat} {l6 l7 l8 : Option Value} {f : Nat → Int64} (hQ : ∀ i j : Nat, i < 7 → j < 7 → zQ X i = zQ X j → i = j) (hi : i + 4 ≤ zsL X) (hs : zsL X < 2 ^ 31) (hI0 : zIv x (x + 261) 0 σ ∨ ∃ cd, zIv x (x + 261) cd σ) (hN : σ.2 = none) (ho : σ.1 (x + 273) = .inl (3, 1, .inr (.inl f))) (kk : ∀ (s : zS) (cd : Int32) (f2 : Nat → Int64) (m6 m7 : Option Value), zIv x (x + 261) cd s → zFr σ s (fun q => x ≤ q ∧ q < x + 274) → s.1 (x + 273) = .inl (3, 1, .inr (.inl f2)) → zW X mL_law 12 bc bs Q 2861 [some (.ref (zQ X 37)), some (.ref x), some (.ref (x + 261)), some (.ref (x + 273)), some (.ref (x + 274)), some (.int (nI i)), m6, m7, l8] [] s) : zW X mL_law 12 (bc + 1) (bs + 6) Q 1518 [some (.ref (zQ X 37)), some (.ref x), some (.ref (x + 261)), some (.ref (x + 273)), some (.ref (x + 274)), some (.int (nI i)), l6, l7, l8] [] σ := by
  have hs2 : zsL X = X.2.2.2.2.2.1 := rfl
  obtain ⟨cd, hI⟩ : ∃ cd, zIv x (x + 261) cd σ := hI0.elim (fun h => ⟨_, h⟩) id
  obtain ⟨fs, hx⟩ := hI.ox
  obtain ⟨Fo, hyo, -⟩ := hI.oy
  obtain ⟨⟨A, S, m, U, n, T, ll, ln, hs1, kf, ld, dt, dc⟩, hK, hM, hL⟩ := hI
  refine zr_aload_n dL_law_1518 rfl ?_
  refine zr_aload_n dL_law_1519 rfl ?_
  refine zr_iload dL_law_1520 rfl ?_
  refine zr_iconst (v := 1) dL_law_1522 (by decide) ?_
  refine zr_iadd dL_law_1523 ?_
  refine zr_eqi (x' := nI (i + 1)) (nI_add i 1) ?_
  refine zr_sat dL_law_1524 (vp_in_nI (n := i + 1) (by omega) (by omega)) ?_
  rw [nI_clamp (n := i + 1) (by omega)]
  refine zr_aload_n dL_law_1525 rfl ?_
  refine zr_iload dL_law_1526 rfl ?_
  refine zr_iconst (v := 2) dL_law_1528 (by decide) ?_
  refine zr_iadd dL_law_1529 ?_
  refine zr_eqi (x' := nI (i + 2)) (nI_add i 2) ?_
  refine zr_sat dL_law_1530 (vp_in_nI (n := i + 2) (by omega) (by omega)) ?_
  rw [nI_clamp (n := i + 2) (by omega)]
  refine zr_aload_n dL_law_1531 rfl ?_
  have hsm := sem_compareByCoordinates hX hK hM hL hN hQ (X.2.2.2.2.2.2 (i + 1)) (X.2.2.2.2.2.2 (i + 2))
  rcases hsm with ⟨v, d1, mc, ms, Qs, d9, m1, m6, hc, hr⟩ | ⟨E, k, d1, mc, ms, Qs, hk, d9, m1, m6, hc, hr⟩
  · refine zr_callH (rest := []) dL_law_1532 vL_241 (wOK_compareByCoordinates hX hc hx (fun s2 hq => zFr.get (hr s2 hq).1 (by unfold zXr; omega) ho)) (by omega) (by omega) (by omega) rfl rfl (Nat.le_of_ble_eq_true rfl) rfl (fun v2 s1 h_ => ?_) (fun E1 s1 h_ => by obtain ⟨r, e, -⟩ := h_; cases e)
    obtain ⟨r, e, e2, s2, hq, et⟩ := h_
    cases e
    rw [e2]
    have F0 := (hr _ hq).1
    have hy0 := zFr.get F0 (by unfold zXr; omega) hyo
    have Ft : zFr s2 s1 (zOu x) := by rw [et]; exact ⟨rfl, fun a ha => zup_ne _ _ (fun z => ha (by unfold zOu; omega))⟩
    obtain ⟨d2, d29, hr2⟩ := (hr _ hq).2 s1 Ft
    have hy := zFr.get Ft (by unfold zOu; omega) hy0
    have F1 : zFr σ s1 (fun q => x ≤ q ∧ q < x + 274) := zFr.tr (F0.w (fun q hq => by unfold zXr at hq; omega)) (P := fun q => x ≤ q ∧ q < x + 274) (show zFr s2 s1 (fun q => x ≤ q ∧ q < x + 274) from by rw [et]; exact ⟨rfl, fun a ha => zup_ne _ _ (fun z => ha (by omega))⟩) (fun q hq => hq)
    have ko : s1.1 (x + 273) = .inl (3, 1, .inr (.inl (vp_updL f 0 v.toInt64))) := by rw [et]; exact zup_at _ _ _
    refine zr_istore (ls' := [some (.ref ((zQ X 37))), some (.ref x), some (.ref ((x + 261))), some (.ref ((x + 273))), some (.ref ((x + 274))), some (.int (nI i)), some (.int 0), l7, l8]) dL_law_1535 (by decide) rfl ?_
    refine zr_aload_n dL_law_1537 rfl ?_
    refine zr_aload_n dL_law_1538 rfl ?_
    refine zr_iload dL_law_1539 rfl ?_
    refine zr_iconst (v := 1) dL_law_1541 (by decide) ?_
    refine zr_iadd dL_law_1542 ?_
    refine zr_eqi (x' := nI (i + 1)) (nI_add i 1) ?_
    refine zr_sat dL_law_1543 (vp_in_nI (n := i + 1) (by omega) (by omega)) ?_
    rw [nI_clamp (n := i + 1) (by omega)]
    refine zr_aload_n dL_law_1544 rfl ?_
    refine zr_iload dL_law_1545 rfl ?_
    refine zr_iconst (v := 2) dL_law_1547 (by decide) ?_
    refine zr_iadd dL_law_1548 ?_
    refine zr_eqi (x' := nI (i + 2)) (nI_add i 2) ?_
    refine zr_sat dL_law_1549 (vp_in_nI (n := i + 2) (by omega) (by omega)) ?_
    rw [nI_clamp (n := i + 2) (by omega)]
    refine zr_callVi (rest := []) dL_law_1550 vL_243 hr2 hy (by omega) (by omega) (by omega) rfl rfl (Nat.le_of_ble_eq_true rfl) (by decide) rfl (fun r3 u h3 => ?_)
    obtain ⟨er, F2, hI⟩ := h3
    rw [er]
    have F3 : zFr σ u (fun q => x ≤ q ∧ q < x + 274) := zFr.tr F1 F2 (fun q hq => by unfold zMr at hq; omega)
    have ko2 := zFr.get F2 (by unfold zMr; omega) ko
    obtain ⟨F8, h8, e8⟩ := hI.oy
    refine zr_istore (ls' := [some (.ref ((zQ X 37))), some (.ref x), some (.ref ((x + 261))), some (.ref ((x + 273))), some (.ref ((x + 274))), some (.int (nI i)), some (.int 0), some (.int v), l8]) dL_law_1553 (by decide) rfl ?_
    refine zr_aload_n dL_law_1555 rfl ?_
    refine zr_pVi (rest := []) dL_law_1556 vL_173 (qX10_thrown hX h8) h8 (by omega) (by omega) (by omega) rfl rfl (Nat.le_of_ble_eq_true rfl) (by decide) rfl ?_
    refine zr_eqi (x' := 0) e8 ?_
    refine zr_iload dL_law_1559 rfl ?_
    refine zr_icmp_eq (tgt := 1566) dL_law_1561 (by decide) (fun c_1561 => ?_) (fun c_1561 => absurd (by decide) c_1561)
    refine zr_iload dL_law_1566 rfl ?_
    refine zr_if_ne (tgt := 1583) dL_law_1568 (by decide) (fun c_1568 => absurd (by decide) c_1568) (fun c_1568 => ?_)
    refine zr_aload_n dL_law_1571 rfl ?_
    refine zr_iconst (v := 0) dL_law_1572 (by decide) ?_
    refine zr_laload dL_law_1573 ko2 (vp_in_nI (n := 0) (by omega) (by omega)) ?_
    rw [show (0 : Int32).toNatClampNeg = 0 from by decide]
    refine zr_eql (x' := v.toInt64) (by unfold vp_updL; rw [if_pos rfl]) ?_
    refine zr_iload dL_law_1574 rfl ?_
    refine zr_i2l dL_law_1576 ?_
    refine zr_lcmp dL_law_1577 ?_
    refine zr_eqi (x' := 0) (lcmp_self _) ?_
    refine zr_if_eq (tgt := 1583) dL_law_1578 (by decide) (fun c_1578 => ?_) (fun c_1578 => absurd (by decide) c_1578)
    refine zr_goto (tgt := 2861) dL_law_1583 (by decide) ?_
    exact zr_less (by omega) (by omega) (kk u _ _ _ _ hI F3 ko2)
  · skip
    rcases List.mem_cons.mp hk with ek | hk
    · cases ek
      refine zr_callH (rest := []) dL_law_1532 vL_241 (wN1_compareByCoordinates hX hc hx) (by omega) (by omega) (by omega) rfl rfl (Nat.le_of_ble_eq_true rfl) rfl (fun v2 s1 h_ => ?_) (fun E1 s1 h_ => by obtain ⟨r, e, -⟩ := h_; cases e)
      obtain ⟨r, e, e2, hq⟩ := h_
      cases e
      rw [e2]
      have F0 := (hr _ hq).1
      have hy0 := zFr.get F0 (by unfold zXr; omega) hyo
      obtain ⟨d2, d29, hr2⟩ := (hr _ hq).2 s1 zFr.rf
      have hy := hy0
      have F1 : zFr σ s1 (fun q => x ≤ q ∧ q < x + 274) := F0.w (fun q hq => by unfold zXr at hq; omega)
      have ko := zFr.get F0 (by unfold zXr; omega) ho
      refine zr_istore (ls' := [some (.ref ((zQ X 37))), some (.ref x), some (.ref ((x + 261))), some (.ref ((x + 273))), some (.ref ((x + 274))), some (.int (nI i)), some (.int 1), l7, l8]) dL_law_1535 (by decide) rfl ?_
      refine zr_aload_n dL_law_1537 rfl ?_
      refine zr_aload_n dL_law_1538 rfl ?_
      refine zr_iload dL_law_1539 rfl ?_
      refine zr_iconst (v := 1) dL_law_1541 (by decide) ?_
      refine zr_iadd dL_law_1542 ?_
      refine zr_eqi (x' := nI (i + 1)) (nI_add i 1) ?_
      refine zr_sat dL_law_1543 (vp_in_nI (n := i + 1) (by omega) (by omega)) ?_
      rw [nI_clamp (n := i + 1) (by omega)]
      refine zr_aload_n dL_law_1544 rfl ?_
      refine zr_iload dL_law_1545 rfl ?_
      refine zr_iconst (v := 2) dL_law_1547 (by decide) ?_
      refine zr_iadd dL_law_1548 ?_
      refine zr_eqi (x' := nI (i + 2)) (nI_add i 2) ?_
      refine zr_sat dL_law_1549 (vp_in_nI (n := i + 2) (by omega) (by omega)) ?_
      rw [nI_clamp (n := i + 2) (by omega)]
      refine zr_callVi (rest := []) dL_law_1550 vL_243 hr2 hy (by omega) (by omega) (by omega) rfl rfl (Nat.le_of_ble_eq_true rfl) (by decide) rfl (fun r3 u h3 => ?_)
      obtain ⟨er, F2, hI⟩ := h3
      have F3 : zFr σ u (fun q => x ≤ q ∧ q < x + 274) := zFr.tr F1 F2 (fun q hq => by unfold zMr at hq; omega)
      have ko2 := zFr.get F2 (by unfold zMr; omega) ko
      obtain ⟨F8, h8, e8⟩ := hI.oy
      refine zr_istore (ls' := [some (.ref ((zQ X 37))), some (.ref x), some (.ref ((x + 261))), some (.ref ((x + 273))), some (.ref ((x + 274))), some (.int (nI i)), some (.int 1), some (.int r3), l8]) dL_law_1553 (by decide) rfl ?_
      refine zr_aload_n dL_law_1555 rfl ?_
      refine zr_pVi (rest := []) dL_law_1556 vL_173 (qX10_thrown hX h8) h8 (by omega) (by omega) (by omega) rfl rfl (Nat.le_of_ble_eq_true rfl) (by decide) rfl ?_
      refine zr_eqi (x' := 1) e8 ?_
      refine zr_iload dL_law_1559 rfl ?_
      refine zr_icmp_eq (tgt := 1566) dL_law_1561 (by decide) (fun c_1561 => ?_) (fun c_1561 => absurd (by decide) c_1561)
      refine zr_iload dL_law_1566 rfl ?_
      refine zr_if_ne (tgt := 1583) dL_law_1568 (by decide) (fun c_1568 => ?_) (fun c_1568 => absurd c_1568 (by decide))
      refine zr_goto (tgt := 2861) dL_law_1583 (by decide) ?_
      exact zr_less (by omega) (by omega) (kk u _ _ _ _ hI F3 ko2)
    · skip
      cases hk

set_option maxHeartbeats 400000 in
set_option maxRecDepth 100000 in
theorem blk_caseByBraid {X : zX} (hX : X.1.stackTraces = false) {Q : zO → zS → Prop} {σ : zS} {x i bc bs : Nat} {l6 l7 l8 : Option Value} {f : Nat → Int64} (hQ : ∀ i j : Nat, i < 7 → j < 7 → zQ X i = zQ X j → i = j) (hi : i + 4 ≤ zsL X) (hs : zsL X < 2 ^ 31) (hI0 : zIv x (x + 261) 0 σ ∨ ∃ cd, zIv x (x + 261) cd σ) (hN : σ.2 = none) (ho : σ.1 (x + 273) = .inl (3, 1, .inr (.inl f))) (kk : ∀ (s : zS) (cd : Int32) (f2 : Nat → Int64) (m6 m7 : Option Value), zIv x (x + 261) cd s → zFr σ s (fun q => x ≤ q ∧ q < x + 274) → s.1 (x + 273) = .inl (3, 1, .inr (.inl f2)) → zW X mL_law 12 bc bs Q 2861 [some (.ref (zQ X 37)), some (.ref x), some (.ref (x + 261)), some (.ref (x + 273)), some (.ref (x + 274)), some (.int (nI i)), m6, m7, l8] [] s) : zW X mL_law 12 (bc + 1) (bs + 6) Q 1586 [some (.ref (zQ X 37)), some (.ref x), some (.ref (x + 261)), some (.ref (x + 273)), some (.ref (x + 274)), some (.int (nI i)), l6, l7, l8] [] σ := by
  have hs2 : zsL X = X.2.2.2.2.2.1 := rfl
  obtain ⟨cd, hI⟩ : ∃ cd, zIv x (x + 261) cd σ := hI0.elim (fun h => ⟨_, h⟩) id
  obtain ⟨fs, hx⟩ := hI.ox
  obtain ⟨Fo, hyo, -⟩ := hI.oy
  obtain ⟨⟨A, S, m, U, n, T, ll, ln, hs1, kf, ld, dt, dc⟩, hK, hM, hL⟩ := hI
  refine zr_aload_n dL_law_1586 rfl ?_
  refine zr_aload_n dL_law_1587 rfl ?_
  refine zr_iload dL_law_1588 rfl ?_
  refine zr_iconst (v := 1) dL_law_1590 (by decide) ?_
  refine zr_iadd dL_law_1591 ?_
  refine zr_eqi (x' := nI (i + 1)) (nI_add i 1) ?_
  refine zr_sat dL_law_1592 (vp_in_nI (n := i + 1) (by omega) (by omega)) ?_
  rw [nI_clamp (n := i + 1) (by omega)]
  refine zr_aload_n dL_law_1593 rfl ?_
  have hsm := sem_caseByBraid hX hK hM hL hN hQ (X.2.2.2.2.2.2 (i + 1))
  rcases hsm with ⟨v, d1, mc, ms, Qs, d9, m1, m6, hc, hr⟩ | ⟨E, k, d1, mc, ms, Qs, hk, d9, m1, m6, hc, hr⟩
  · refine zr_callH (rest := []) dL_law_1594 vL_244 (wOK_caseByBraid hX hc hx (fun s2 hq => zFr.get (hr s2 hq).1 (by unfold zXr; omega) ho)) (by omega) (by omega) (by omega) rfl rfl (Nat.le_of_ble_eq_true rfl) rfl (fun v2 s1 h_ => ?_) (fun E1 s1 h_ => by obtain ⟨r, e, -⟩ := h_; cases e)
    obtain ⟨r, e, e2, s2, hq, et⟩ := h_
    cases e
    rw [e2]
    have F0 := (hr _ hq).1
    have hy0 := zFr.get F0 (by unfold zXr; omega) hyo
    have Ft : zFr s2 s1 (zOu x) := by rw [et]; exact ⟨rfl, fun a ha => zup_ne _ _ (fun z => ha (by unfold zOu; omega))⟩
    obtain ⟨d2, d29, hr2⟩ := (hr _ hq).2 s1 Ft
    have hy := zFr.get Ft (by unfold zOu; omega) hy0
    have F1 : zFr σ s1 (fun q => x ≤ q ∧ q < x + 274) := zFr.tr (F0.w (fun q hq => by unfold zXr at hq; omega)) (P := fun q => x ≤ q ∧ q < x + 274) (show zFr s2 s1 (fun q => x ≤ q ∧ q < x + 274) from by rw [et]; exact ⟨rfl, fun a ha => zup_ne _ _ (fun z => ha (by omega))⟩) (fun q hq => hq)
    have ko : s1.1 (x + 273) = .inl (3, 1, .inr (.inl (vp_updL f 0 v.toInt64))) := by rw [et]; exact zup_at _ _ _
    refine zr_istore (ls' := [some (.ref ((zQ X 37))), some (.ref x), some (.ref ((x + 261))), some (.ref ((x + 273))), some (.ref ((x + 274))), some (.int (nI i)), some (.int 0), l7, l8]) dL_law_1597 (by decide) rfl ?_
    refine zr_aload_n dL_law_1599 rfl ?_
    refine zr_aload_n dL_law_1600 rfl ?_
    refine zr_iload dL_law_1601 rfl ?_
    refine zr_iconst (v := 1) dL_law_1603 (by decide) ?_
    refine zr_iadd dL_law_1604 ?_
    refine zr_eqi (x' := nI (i + 1)) (nI_add i 1) ?_
    refine zr_sat dL_law_1605 (vp_in_nI (n := i + 1) (by omega) (by omega)) ?_
    rw [nI_clamp (n := i + 1) (by omega)]
    refine zr_callVi (rest := []) dL_law_1606 vL_246 hr2 hy (by omega) (by omega) (by omega) rfl rfl (Nat.le_of_ble_eq_true rfl) (by decide) rfl (fun r3 u h3 => ?_)
    obtain ⟨er, F2, hI⟩ := h3
    rw [er]
    have F3 : zFr σ u (fun q => x ≤ q ∧ q < x + 274) := zFr.tr F1 F2 (fun q hq => by unfold zMr at hq; omega)
    have ko2 := zFr.get F2 (by unfold zMr; omega) ko
    obtain ⟨F8, h8, e8⟩ := hI.oy
    refine zr_istore (ls' := [some (.ref ((zQ X 37))), some (.ref x), some (.ref ((x + 261))), some (.ref ((x + 273))), some (.ref ((x + 274))), some (.int (nI i)), some (.int 0), some (.int v), l8]) dL_law_1609 (by decide) rfl ?_
    refine zr_aload_n dL_law_1611 rfl ?_
    refine zr_pVi (rest := []) dL_law_1612 vL_173 (qX10_thrown hX h8) h8 (by omega) (by omega) (by omega) rfl rfl (Nat.le_of_ble_eq_true rfl) (by decide) rfl ?_
    refine zr_eqi (x' := 0) e8 ?_
    refine zr_iload dL_law_1615 rfl ?_
    refine zr_icmp_eq (tgt := 1622) dL_law_1617 (by decide) (fun c_1617 => ?_) (fun c_1617 => absurd (by decide) c_1617)
    refine zr_iload dL_law_1622 rfl ?_
    refine zr_if_ne (tgt := 1639) dL_law_1624 (by decide) (fun c_1624 => absurd (by decide) c_1624) (fun c_1624 => ?_)
    refine zr_aload_n dL_law_1627 rfl ?_
    refine zr_iconst (v := 0) dL_law_1628 (by decide) ?_
    refine zr_laload dL_law_1629 ko2 (vp_in_nI (n := 0) (by omega) (by omega)) ?_
    rw [show (0 : Int32).toNatClampNeg = 0 from by decide]
    refine zr_eql (x' := v.toInt64) (by unfold vp_updL; rw [if_pos rfl]) ?_
    refine zr_iload dL_law_1630 rfl ?_
    refine zr_i2l dL_law_1632 ?_
    refine zr_lcmp dL_law_1633 ?_
    refine zr_eqi (x' := 0) (lcmp_self _) ?_
    refine zr_if_eq (tgt := 1639) dL_law_1634 (by decide) (fun c_1634 => ?_) (fun c_1634 => absurd (by decide) c_1634)
    refine zr_goto (tgt := 2861) dL_law_1639 (by decide) ?_
    exact zr_less (by omega) (by omega) (kk u _ _ _ _ hI F3 ko2)
  · skip
    rcases List.mem_cons.mp hk with ek | hk
    · cases ek
      refine zr_callH (rest := []) dL_law_1594 vL_244 (wN1_caseByBraid hX hc hx) (by omega) (by omega) (by omega) rfl rfl (Nat.le_of_ble_eq_true rfl) rfl (fun v2 s1 h_ => ?_) (fun E1 s1 h_ => by obtain ⟨r, e, -⟩ := h_; cases e)
      obtain ⟨r, e, e2, hq⟩ := h_
      cases e
      rw [e2]
      have F0 := (hr _ hq).1
      have hy0 := zFr.get F0 (by unfold zXr; omega) hyo
      obtain ⟨d2, d29, hr2⟩ := (hr _ hq).2 s1 zFr.rf
      have hy := hy0
      have F1 : zFr σ s1 (fun q => x ≤ q ∧ q < x + 274) := F0.w (fun q hq => by unfold zXr at hq; omega)
      have ko := zFr.get F0 (by unfold zXr; omega) ho
      refine zr_istore (ls' := [some (.ref ((zQ X 37))), some (.ref x), some (.ref ((x + 261))), some (.ref ((x + 273))), some (.ref ((x + 274))), some (.int (nI i)), some (.int 1), l7, l8]) dL_law_1597 (by decide) rfl ?_
      refine zr_aload_n dL_law_1599 rfl ?_
      refine zr_aload_n dL_law_1600 rfl ?_
      refine zr_iload dL_law_1601 rfl ?_
      refine zr_iconst (v := 1) dL_law_1603 (by decide) ?_
      refine zr_iadd dL_law_1604 ?_
      refine zr_eqi (x' := nI (i + 1)) (nI_add i 1) ?_
      refine zr_sat dL_law_1605 (vp_in_nI (n := i + 1) (by omega) (by omega)) ?_
      rw [nI_clamp (n := i + 1) (by omega)]
      refine zr_callVi (rest := []) dL_law_1606 vL_246 hr2 hy (by omega) (by omega) (by omega) rfl rfl (Nat.le_of_ble_eq_true rfl) (by decide) rfl (fun r3 u h3 => ?_)
      obtain ⟨er, F2, hI⟩ := h3
      have F3 : zFr σ u (fun q => x ≤ q ∧ q < x + 274) := zFr.tr F1 F2 (fun q hq => by unfold zMr at hq; omega)
      have ko2 := zFr.get F2 (by unfold zMr; omega) ko
      obtain ⟨F8, h8, e8⟩ := hI.oy
      refine zr_istore (ls' := [some (.ref ((zQ X 37))), some (.ref x), some (.ref ((x + 261))), some (.ref ((x + 273))), some (.ref ((x + 274))), some (.int (nI i)), some (.int 1), some (.int r3), l8]) dL_law_1609 (by decide) rfl ?_
      refine zr_aload_n dL_law_1611 rfl ?_
      refine zr_pVi (rest := []) dL_law_1612 vL_173 (qX10_thrown hX h8) h8 (by omega) (by omega) (by omega) rfl rfl (Nat.le_of_ble_eq_true rfl) (by decide) rfl ?_
      refine zr_eqi (x' := 1) e8 ?_
      refine zr_iload dL_law_1615 rfl ?_
      refine zr_icmp_eq (tgt := 1622) dL_law_1617 (by decide) (fun c_1617 => ?_) (fun c_1617 => absurd (by decide) c_1617)
      refine zr_iload dL_law_1622 rfl ?_
      refine zr_if_ne (tgt := 1639) dL_law_1624 (by decide) (fun c_1624 => ?_) (fun c_1624 => absurd c_1624 (by decide))
      refine zr_goto (tgt := 2861) dL_law_1639 (by decide) ?_
      exact zr_less (by omega) (by omega) (kk u _ _ _ _ hI F3 ko2)
    · skip
      cases hk

set_option maxHeartbeats 400000 in
set_option maxRecDepth 100000 in
theorem blk_decide {X : zX} (hX : X.1.stackTraces = false) {Q : zO → zS → Prop} {σ : zS} {x i bc bs : Nat} {l6 l7 l8 : Option Value} {f : Nat → Int64} (hQ : ∀ i j : Nat, i < 7 → j < 7 → zQ X i = zQ X j → i = j) (hi : i + 4 ≤ zsL X) (hs : zsL X < 2 ^ 31) (hI0 : zIv x (x + 261) 0 σ ∨ ∃ cd, zIv x (x + 261) cd σ) (hN : σ.2 = none) (ho : σ.1 (x + 273) = .inl (3, 1, .inr (.inl f))) (kk : ∀ (s : zS) (cd : Int32) (f2 : Nat → Int64) (m6 m7 : Option Value), zIv x (x + 261) cd s → zFr σ s (fun q => x ≤ q ∧ q < x + 274) → s.1 (x + 273) = .inl (3, 1, .inr (.inl f2)) → zW X mL_law 12 bc bs Q 2861 [some (.ref (zQ X 37)), some (.ref x), some (.ref (x + 261)), some (.ref (x + 273)), some (.ref (x + 274)), some (.int (nI i)), m6, m7, l8] [] s) : zW X mL_law 12 (bc + 1) (bs + 6) Q 1642 [some (.ref (zQ X 37)), some (.ref x), some (.ref (x + 261)), some (.ref (x + 273)), some (.ref (x + 274)), some (.int (nI i)), l6, l7, l8] [] σ := by
  have hs2 : zsL X = X.2.2.2.2.2.1 := rfl
  obtain ⟨cd, hI⟩ : ∃ cd, zIv x (x + 261) cd σ := hI0.elim (fun h => ⟨_, h⟩) id
  obtain ⟨fs, hx⟩ := hI.ox
  obtain ⟨Fo, hyo, -⟩ := hI.oy
  obtain ⟨⟨A, S, m, U, n, T, ll, ln, hs1, kf, ld, dt, dc⟩, hK, hM, hL⟩ := hI
  refine zr_aload_n dL_law_1642 rfl ?_
  refine zr_aload_n dL_law_1643 rfl ?_
  refine zr_iload dL_law_1644 rfl ?_
  refine zr_iconst (v := 1) dL_law_1646 (by decide) ?_
  refine zr_iadd dL_law_1647 ?_
  refine zr_eqi (x' := nI (i + 1)) (nI_add i 1) ?_
  refine zr_sat dL_law_1648 (vp_in_nI (n := i + 1) (by omega) (by omega)) ?_
  rw [nI_clamp (n := i + 1) (by omega)]
  refine zr_aload_n dL_law_1649 rfl ?_
  have hsm := sem_decide hX hK hM hL hN hQ (X.2.2.2.2.2.2 (i + 1))
  rcases hsm with ⟨v, d1, mc, ms, Qs, d9, m1, m6, hc, hr⟩ | ⟨E, k, d1, mc, ms, Qs, hk, d9, m1, m6, hc, hr⟩
  · refine zr_callH (rest := []) dL_law_1650 vL_247 (wOK_decide hX hc hx (fun s2 hq => zFr.get (hr s2 hq).1 (by unfold zXr; omega) ho)) (by omega) (by omega) (by omega) rfl rfl (Nat.le_of_ble_eq_true rfl) rfl (fun v2 s1 h_ => ?_) (fun E1 s1 h_ => by obtain ⟨r, e, -⟩ := h_; cases e)
    obtain ⟨r, e, e2, s2, hq, et⟩ := h_
    cases e
    rw [e2]
    have F0 := (hr _ hq).1
    have hy0 := zFr.get F0 (by unfold zXr; omega) hyo
    have Ft : zFr s2 s1 (zOu x) := by rw [et]; exact ⟨rfl, fun a ha => zup_ne _ _ (fun z => ha (by unfold zOu; omega))⟩
    obtain ⟨d2, d29, hr2⟩ := (hr _ hq).2 s1 Ft
    have hy := zFr.get Ft (by unfold zOu; omega) hy0
    have F1 : zFr σ s1 (fun q => x ≤ q ∧ q < x + 274) := zFr.tr (F0.w (fun q hq => by unfold zXr at hq; omega)) (P := fun q => x ≤ q ∧ q < x + 274) (show zFr s2 s1 (fun q => x ≤ q ∧ q < x + 274) from by rw [et]; exact ⟨rfl, fun a ha => zup_ne _ _ (fun z => ha (by omega))⟩) (fun q hq => hq)
    have ko : s1.1 (x + 273) = .inl (3, 1, .inr (.inl (vp_updL f 0 (if v = 0 then 0 else 1)))) := by rw [et]; exact zup_at _ _ _
    refine zr_istore (ls' := [some (.ref ((zQ X 37))), some (.ref x), some (.ref ((x + 261))), some (.ref ((x + 273))), some (.ref ((x + 274))), some (.int (nI i)), some (.int 0), l7, l8]) dL_law_1653 (by decide) rfl ?_
    refine zr_aload_n dL_law_1655 rfl ?_
    refine zr_aload_n dL_law_1656 rfl ?_
    refine zr_iload dL_law_1657 rfl ?_
    refine zr_iconst (v := 1) dL_law_1659 (by decide) ?_
    refine zr_iadd dL_law_1660 ?_
    refine zr_eqi (x' := nI (i + 1)) (nI_add i 1) ?_
    refine zr_sat dL_law_1661 (vp_in_nI (n := i + 1) (by omega) (by omega)) ?_
    rw [nI_clamp (n := i + 1) (by omega)]
    refine zr_callVi (rest := []) dL_law_1662 vL_249 hr2 hy (by omega) (by omega) (by omega) rfl rfl (Nat.le_of_ble_eq_true rfl) (by decide) rfl (fun r3 u h3 => ?_)
    obtain ⟨er, F2, hI⟩ := h3
    rw [er]
    have F3 : zFr σ u (fun q => x ≤ q ∧ q < x + 274) := zFr.tr F1 F2 (fun q hq => by unfold zMr at hq; omega)
    have ko2 := zFr.get F2 (by unfold zMr; omega) ko
    obtain ⟨F8, h8, e8⟩ := hI.oy
    refine zr_istore (ls' := [some (.ref ((zQ X 37))), some (.ref x), some (.ref ((x + 261))), some (.ref ((x + 273))), some (.ref ((x + 274))), some (.int (nI i)), some (.int 0), some (.int v), l8]) dL_law_1665 (by decide) rfl ?_
    refine zr_aload_n dL_law_1667 rfl ?_
    refine zr_pVi (rest := []) dL_law_1668 vL_173 (qX10_thrown hX h8) h8 (by omega) (by omega) (by omega) rfl rfl (Nat.le_of_ble_eq_true rfl) (by decide) rfl ?_
    refine zr_eqi (x' := 0) e8 ?_
    refine zr_iload dL_law_1671 rfl ?_
    refine zr_icmp_eq (tgt := 1678) dL_law_1673 (by decide) (fun c_1673 => ?_) (fun c_1673 => absurd (by decide) c_1673)
    refine zr_iload dL_law_1678 rfl ?_
    refine zr_if_ne (tgt := 1702) dL_law_1680 (by decide) (fun c_1680 => absurd (by decide) c_1680) (fun c_1680 => ?_)
    refine zr_aload_n dL_law_1683 rfl ?_
    refine zr_iconst (v := 0) dL_law_1684 (by decide) ?_
    refine zr_laload dL_law_1685 ko2 (vp_in_nI (n := 0) (by omega) (by omega)) ?_
    rw [show (0 : Int32).toNatClampNeg = 0 from by decide]
    refine zr_eql (x' := (if v = 0 then 0 else 1)) (by unfold vp_updL; rw [if_pos rfl]) ?_
    refine zr_iload dL_law_1686 rfl ?_
    refine zr_if_eq (tgt := 1695) dL_law_1688 (by decide) (fun c_1688 => ?_) (fun c_1688 => ?_)
    · refine zr_lconst (v := 0) dL_law_1695 (by decide) ?_
      refine zr_lcmp dL_law_1696 ?_
      refine zr_eqi (x' := 0) (by rw [if_pos c_1688]; exact lcmp_self _) ?_
      refine zr_if_eq (tgt := 1702) dL_law_1697 (by decide) (fun c_1697 => ?_) (fun c_1697 => absurd (by decide) c_1697)
      refine zr_goto (tgt := 2861) dL_law_1702 (by decide) ?_
      exact zr_less (by omega) (by omega) (kk u _ _ _ _ hI F3 ko2)
    · refine zr_lconst (v := 1) dL_law_1691 (by decide) ?_
      refine zr_goto (tgt := 1696) dL_law_1692 (by decide) ?_
      refine zr_lcmp dL_law_1696 ?_
      refine zr_eqi (x' := 0) (by rw [if_neg c_1688]; exact lcmp_self _) ?_
      refine zr_if_eq (tgt := 1702) dL_law_1697 (by decide) (fun c_1697 => ?_) (fun c_1697 => absurd (by decide) c_1697)
      refine zr_goto (tgt := 2861) dL_law_1702 (by decide) ?_
      exact zr_less (by omega) (by omega) (kk u _ _ _ _ hI F3 ko2)
  · skip
    rcases List.mem_cons.mp hk with ek | hk
    · cases ek
      refine zr_callH (rest := []) dL_law_1650 vL_247 (wN1_decide hX hc hx) (by omega) (by omega) (by omega) rfl rfl (Nat.le_of_ble_eq_true rfl) rfl (fun v2 s1 h_ => ?_) (fun E1 s1 h_ => by obtain ⟨r, e, -⟩ := h_; cases e)
      obtain ⟨r, e, e2, hq⟩ := h_
      cases e
      rw [e2]
      have F0 := (hr _ hq).1
      have hy0 := zFr.get F0 (by unfold zXr; omega) hyo
      obtain ⟨d2, d29, hr2⟩ := (hr _ hq).2 s1 zFr.rf
      have hy := hy0
      have F1 : zFr σ s1 (fun q => x ≤ q ∧ q < x + 274) := F0.w (fun q hq => by unfold zXr at hq; omega)
      have ko := zFr.get F0 (by unfold zXr; omega) ho
      refine zr_istore (ls' := [some (.ref ((zQ X 37))), some (.ref x), some (.ref ((x + 261))), some (.ref ((x + 273))), some (.ref ((x + 274))), some (.int (nI i)), some (.int 1), l7, l8]) dL_law_1653 (by decide) rfl ?_
      refine zr_aload_n dL_law_1655 rfl ?_
      refine zr_aload_n dL_law_1656 rfl ?_
      refine zr_iload dL_law_1657 rfl ?_
      refine zr_iconst (v := 1) dL_law_1659 (by decide) ?_
      refine zr_iadd dL_law_1660 ?_
      refine zr_eqi (x' := nI (i + 1)) (nI_add i 1) ?_
      refine zr_sat dL_law_1661 (vp_in_nI (n := i + 1) (by omega) (by omega)) ?_
      rw [nI_clamp (n := i + 1) (by omega)]
      refine zr_callVi (rest := []) dL_law_1662 vL_249 hr2 hy (by omega) (by omega) (by omega) rfl rfl (Nat.le_of_ble_eq_true rfl) (by decide) rfl (fun r3 u h3 => ?_)
      obtain ⟨er, F2, hI⟩ := h3
      have F3 : zFr σ u (fun q => x ≤ q ∧ q < x + 274) := zFr.tr F1 F2 (fun q hq => by unfold zMr at hq; omega)
      have ko2 := zFr.get F2 (by unfold zMr; omega) ko
      obtain ⟨F8, h8, e8⟩ := hI.oy
      refine zr_istore (ls' := [some (.ref ((zQ X 37))), some (.ref x), some (.ref ((x + 261))), some (.ref ((x + 273))), some (.ref ((x + 274))), some (.int (nI i)), some (.int 1), some (.int r3), l8]) dL_law_1665 (by decide) rfl ?_
      refine zr_aload_n dL_law_1667 rfl ?_
      refine zr_pVi (rest := []) dL_law_1668 vL_173 (qX10_thrown hX h8) h8 (by omega) (by omega) (by omega) rfl rfl (Nat.le_of_ble_eq_true rfl) (by decide) rfl ?_
      refine zr_eqi (x' := 1) e8 ?_
      refine zr_iload dL_law_1671 rfl ?_
      refine zr_icmp_eq (tgt := 1678) dL_law_1673 (by decide) (fun c_1673 => ?_) (fun c_1673 => absurd (by decide) c_1673)
      refine zr_iload dL_law_1678 rfl ?_
      refine zr_if_ne (tgt := 1702) dL_law_1680 (by decide) (fun c_1680 => ?_) (fun c_1680 => absurd c_1680 (by decide))
      refine zr_goto (tgt := 2861) dL_law_1702 (by decide) ?_
      exact zr_less (by omega) (by omega) (kk u _ _ _ _ hI F3 ko2)
    · skip
      rcases List.mem_cons.mp hk with ek | hk
      · cases ek
        refine zr_callH (rest := []) dL_law_1650 vL_247 (wN2_decide hX hc hx) (by omega) (by omega) (by omega) rfl rfl (Nat.le_of_ble_eq_true rfl) rfl (fun v2 s1 h_ => ?_) (fun E1 s1 h_ => by obtain ⟨r, e, -⟩ := h_; cases e)
        obtain ⟨r, e, e2, hq⟩ := h_
        cases e
        rw [e2]
        have F0 := (hr _ hq).1
        have hy0 := zFr.get F0 (by unfold zXr; omega) hyo
        obtain ⟨d2, d29, hr2⟩ := (hr _ hq).2 s1 zFr.rf
        have hy := hy0
        have F1 : zFr σ s1 (fun q => x ≤ q ∧ q < x + 274) := F0.w (fun q hq => by unfold zXr at hq; omega)
        have ko := zFr.get F0 (by unfold zXr; omega) ho
        refine zr_istore (ls' := [some (.ref ((zQ X 37))), some (.ref x), some (.ref ((x + 261))), some (.ref ((x + 273))), some (.ref ((x + 274))), some (.int (nI i)), some (.int 2), l7, l8]) dL_law_1653 (by decide) rfl ?_
        refine zr_aload_n dL_law_1655 rfl ?_
        refine zr_aload_n dL_law_1656 rfl ?_
        refine zr_iload dL_law_1657 rfl ?_
        refine zr_iconst (v := 1) dL_law_1659 (by decide) ?_
        refine zr_iadd dL_law_1660 ?_
        refine zr_eqi (x' := nI (i + 1)) (nI_add i 1) ?_
        refine zr_sat dL_law_1661 (vp_in_nI (n := i + 1) (by omega) (by omega)) ?_
        rw [nI_clamp (n := i + 1) (by omega)]
        refine zr_callVi (rest := []) dL_law_1662 vL_249 hr2 hy (by omega) (by omega) (by omega) rfl rfl (Nat.le_of_ble_eq_true rfl) (by decide) rfl (fun r3 u h3 => ?_)
        obtain ⟨er, F2, hI⟩ := h3
        have F3 : zFr σ u (fun q => x ≤ q ∧ q < x + 274) := zFr.tr F1 F2 (fun q hq => by unfold zMr at hq; omega)
        have ko2 := zFr.get F2 (by unfold zMr; omega) ko
        obtain ⟨F8, h8, e8⟩ := hI.oy
        refine zr_istore (ls' := [some (.ref ((zQ X 37))), some (.ref x), some (.ref ((x + 261))), some (.ref ((x + 273))), some (.ref ((x + 274))), some (.int (nI i)), some (.int 2), some (.int r3), l8]) dL_law_1665 (by decide) rfl ?_
        refine zr_aload_n dL_law_1667 rfl ?_
        refine zr_pVi (rest := []) dL_law_1668 vL_173 (qX10_thrown hX h8) h8 (by omega) (by omega) (by omega) rfl rfl (Nat.le_of_ble_eq_true rfl) (by decide) rfl ?_
        refine zr_eqi (x' := 2) e8 ?_
        refine zr_iload dL_law_1671 rfl ?_
        refine zr_icmp_eq (tgt := 1678) dL_law_1673 (by decide) (fun c_1673 => ?_) (fun c_1673 => absurd (by decide) c_1673)
        refine zr_iload dL_law_1678 rfl ?_
        refine zr_if_ne (tgt := 1702) dL_law_1680 (by decide) (fun c_1680 => ?_) (fun c_1680 => absurd c_1680 (by decide))
        refine zr_goto (tgt := 2861) dL_law_1702 (by decide) ?_
        exact zr_less (by omega) (by omega) (kk u _ _ _ _ hI F3 ko2)
      · skip
        cases hk

set_option maxHeartbeats 400000 in
set_option maxRecDepth 100000 in
theorem blk_appeal {X : zX} (hX : X.1.stackTraces = false) {Q : zO → zS → Prop} {σ : zS} {x i bc bs : Nat} {l6 l7 l8 : Option Value} {f : Nat → Int64} (hQ : ∀ i j : Nat, i < 7 → j < 7 → zQ X i = zQ X j → i = j) (hi : i + 4 ≤ zsL X) (hs : zsL X < 2 ^ 31) (hI0 : zIv x (x + 261) 0 σ ∨ ∃ cd, zIv x (x + 261) cd σ) (hN : σ.2 = none) (ho : σ.1 (x + 273) = .inl (3, 1, .inr (.inl f))) (kk : ∀ (s : zS) (cd : Int32) (f2 : Nat → Int64) (m6 m7 : Option Value), zIv x (x + 261) cd s → zFr σ s (fun q => x ≤ q ∧ q < x + 274) → s.1 (x + 273) = .inl (3, 1, .inr (.inl f2)) → zW X mL_law 12 bc bs Q 2861 [some (.ref (zQ X 37)), some (.ref x), some (.ref (x + 261)), some (.ref (x + 273)), some (.ref (x + 274)), some (.int (nI i)), m6, m7, l8] [] s) : zW X mL_law 12 (bc + 1) (bs + 6) Q 1705 [some (.ref (zQ X 37)), some (.ref x), some (.ref (x + 261)), some (.ref (x + 273)), some (.ref (x + 274)), some (.int (nI i)), l6, l7, l8] [] σ := by
  have hs2 : zsL X = X.2.2.2.2.2.1 := rfl
  obtain ⟨cd, hI⟩ : ∃ cd, zIv x (x + 261) cd σ := hI0.elim (fun h => ⟨_, h⟩) id
  obtain ⟨fs, hx⟩ := hI.ox
  obtain ⟨Fo, hyo, -⟩ := hI.oy
  obtain ⟨⟨A, S, m, U, n, T, ll, ln, hs1, kf, ld, dt, dc⟩, hK, hM, hL⟩ := hI
  refine zr_aload_n dL_law_1705 rfl ?_
  refine zr_aload_n dL_law_1706 rfl ?_
  refine zr_iload dL_law_1707 rfl ?_
  refine zr_iconst (v := 1) dL_law_1709 (by decide) ?_
  refine zr_iadd dL_law_1710 ?_
  refine zr_eqi (x' := nI (i + 1)) (nI_add i 1) ?_
  refine zr_sat dL_law_1711 (vp_in_nI (n := i + 1) (by omega) (by omega)) ?_
  rw [nI_clamp (n := i + 1) (by omega)]
  refine zr_aload_n dL_law_1712 rfl ?_
  have hsm := sem_appeal hX hK hM hL hN hQ (X.2.2.2.2.2.2 (i + 1))
  rcases hsm with ⟨v, d1, mc, ms, Qs, d9, m1, m6, hc, hr⟩ | ⟨E, k, d1, mc, ms, Qs, hk, d9, m1, m6, hc, hr⟩
  · refine zr_callH (rest := []) dL_law_1713 vL_250 (wOK_appeal hX hc hx (fun s2 hq => zFr.get (hr s2 hq).1 (by unfold zXr; omega) ho)) (by omega) (by omega) (by omega) rfl rfl (Nat.le_of_ble_eq_true rfl) rfl (fun v2 s1 h_ => ?_) (fun E1 s1 h_ => by obtain ⟨r, e, -⟩ := h_; cases e)
    obtain ⟨r, e, e2, s2, hq, et⟩ := h_
    cases e
    rw [e2]
    have F0 := (hr _ hq).1
    have hy0 := zFr.get F0 (by unfold zXr; omega) hyo
    have Ft : zFr s2 s1 (zOu x) := by rw [et]; exact ⟨rfl, fun a ha => zup_ne _ _ (fun z => ha (by unfold zOu; omega))⟩
    obtain ⟨d2, d29, hr2⟩ := (hr _ hq).2 s1 Ft
    have hy := zFr.get Ft (by unfold zOu; omega) hy0
    have F1 : zFr σ s1 (fun q => x ≤ q ∧ q < x + 274) := zFr.tr (F0.w (fun q hq => by unfold zXr at hq; omega)) (P := fun q => x ≤ q ∧ q < x + 274) (show zFr s2 s1 (fun q => x ≤ q ∧ q < x + 274) from by rw [et]; exact ⟨rfl, fun a ha => zup_ne _ _ (fun z => ha (by omega))⟩) (fun q hq => hq)
    have ko : s1.1 (x + 273) = .inl (3, 1, .inr (.inl (vp_updL f 0 v.toInt64))) := by rw [et]; exact zup_at _ _ _
    refine zr_istore (ls' := [some (.ref ((zQ X 37))), some (.ref x), some (.ref ((x + 261))), some (.ref ((x + 273))), some (.ref ((x + 274))), some (.int (nI i)), some (.int 0), l7, l8]) dL_law_1716 (by decide) rfl ?_
    refine zr_aload_n dL_law_1718 rfl ?_
    refine zr_aload_n dL_law_1719 rfl ?_
    refine zr_iload dL_law_1720 rfl ?_
    refine zr_iconst (v := 1) dL_law_1722 (by decide) ?_
    refine zr_iadd dL_law_1723 ?_
    refine zr_eqi (x' := nI (i + 1)) (nI_add i 1) ?_
    refine zr_sat dL_law_1724 (vp_in_nI (n := i + 1) (by omega) (by omega)) ?_
    rw [nI_clamp (n := i + 1) (by omega)]
    refine zr_callVi (rest := []) dL_law_1725 vL_252 hr2 hy (by omega) (by omega) (by omega) rfl rfl (Nat.le_of_ble_eq_true rfl) (by decide) rfl (fun r3 u h3 => ?_)
    obtain ⟨er, F2, hI⟩ := h3
    rw [er]
    have F3 : zFr σ u (fun q => x ≤ q ∧ q < x + 274) := zFr.tr F1 F2 (fun q hq => by unfold zMr at hq; omega)
    have ko2 := zFr.get F2 (by unfold zMr; omega) ko
    obtain ⟨F8, h8, e8⟩ := hI.oy
    refine zr_istore (ls' := [some (.ref ((zQ X 37))), some (.ref x), some (.ref ((x + 261))), some (.ref ((x + 273))), some (.ref ((x + 274))), some (.int (nI i)), some (.int 0), some (.int v), l8]) dL_law_1728 (by decide) rfl ?_
    refine zr_aload_n dL_law_1730 rfl ?_
    refine zr_pVi (rest := []) dL_law_1731 vL_173 (qX10_thrown hX h8) h8 (by omega) (by omega) (by omega) rfl rfl (Nat.le_of_ble_eq_true rfl) (by decide) rfl ?_
    refine zr_eqi (x' := 0) e8 ?_
    refine zr_iload dL_law_1734 rfl ?_
    refine zr_icmp_eq (tgt := 1741) dL_law_1736 (by decide) (fun c_1736 => ?_) (fun c_1736 => absurd (by decide) c_1736)
    refine zr_iload dL_law_1741 rfl ?_
    refine zr_if_ne (tgt := 1758) dL_law_1743 (by decide) (fun c_1743 => absurd (by decide) c_1743) (fun c_1743 => ?_)
    refine zr_aload_n dL_law_1746 rfl ?_
    refine zr_iconst (v := 0) dL_law_1747 (by decide) ?_
    refine zr_laload dL_law_1748 ko2 (vp_in_nI (n := 0) (by omega) (by omega)) ?_
    rw [show (0 : Int32).toNatClampNeg = 0 from by decide]
    refine zr_eql (x' := v.toInt64) (by unfold vp_updL; rw [if_pos rfl]) ?_
    refine zr_iload dL_law_1749 rfl ?_
    refine zr_i2l dL_law_1751 ?_
    refine zr_lcmp dL_law_1752 ?_
    refine zr_eqi (x' := 0) (lcmp_self _) ?_
    refine zr_if_eq (tgt := 1758) dL_law_1753 (by decide) (fun c_1753 => ?_) (fun c_1753 => absurd (by decide) c_1753)
    refine zr_goto (tgt := 2861) dL_law_1758 (by decide) ?_
    exact zr_less (by omega) (by omega) (kk u _ _ _ _ hI F3 ko2)
  · skip
    rcases List.mem_cons.mp hk with ek | hk
    · cases ek
      refine zr_callH (rest := []) dL_law_1713 vL_250 (wN1_appeal hX hc hx) (by omega) (by omega) (by omega) rfl rfl (Nat.le_of_ble_eq_true rfl) rfl (fun v2 s1 h_ => ?_) (fun E1 s1 h_ => by obtain ⟨r, e, -⟩ := h_; cases e)
      obtain ⟨r, e, e2, hq⟩ := h_
      cases e
      rw [e2]
      have F0 := (hr _ hq).1
      have hy0 := zFr.get F0 (by unfold zXr; omega) hyo
      obtain ⟨d2, d29, hr2⟩ := (hr _ hq).2 s1 zFr.rf
      have hy := hy0
      have F1 : zFr σ s1 (fun q => x ≤ q ∧ q < x + 274) := F0.w (fun q hq => by unfold zXr at hq; omega)
      have ko := zFr.get F0 (by unfold zXr; omega) ho
      refine zr_istore (ls' := [some (.ref ((zQ X 37))), some (.ref x), some (.ref ((x + 261))), some (.ref ((x + 273))), some (.ref ((x + 274))), some (.int (nI i)), some (.int 1), l7, l8]) dL_law_1716 (by decide) rfl ?_
      refine zr_aload_n dL_law_1718 rfl ?_
      refine zr_aload_n dL_law_1719 rfl ?_
      refine zr_iload dL_law_1720 rfl ?_
      refine zr_iconst (v := 1) dL_law_1722 (by decide) ?_
      refine zr_iadd dL_law_1723 ?_
      refine zr_eqi (x' := nI (i + 1)) (nI_add i 1) ?_
      refine zr_sat dL_law_1724 (vp_in_nI (n := i + 1) (by omega) (by omega)) ?_
      rw [nI_clamp (n := i + 1) (by omega)]
      refine zr_callVi (rest := []) dL_law_1725 vL_252 hr2 hy (by omega) (by omega) (by omega) rfl rfl (Nat.le_of_ble_eq_true rfl) (by decide) rfl (fun r3 u h3 => ?_)
      obtain ⟨er, F2, hI⟩ := h3
      have F3 : zFr σ u (fun q => x ≤ q ∧ q < x + 274) := zFr.tr F1 F2 (fun q hq => by unfold zMr at hq; omega)
      have ko2 := zFr.get F2 (by unfold zMr; omega) ko
      obtain ⟨F8, h8, e8⟩ := hI.oy
      refine zr_istore (ls' := [some (.ref ((zQ X 37))), some (.ref x), some (.ref ((x + 261))), some (.ref ((x + 273))), some (.ref ((x + 274))), some (.int (nI i)), some (.int 1), some (.int r3), l8]) dL_law_1728 (by decide) rfl ?_
      refine zr_aload_n dL_law_1730 rfl ?_
      refine zr_pVi (rest := []) dL_law_1731 vL_173 (qX10_thrown hX h8) h8 (by omega) (by omega) (by omega) rfl rfl (Nat.le_of_ble_eq_true rfl) (by decide) rfl ?_
      refine zr_eqi (x' := 1) e8 ?_
      refine zr_iload dL_law_1734 rfl ?_
      refine zr_icmp_eq (tgt := 1741) dL_law_1736 (by decide) (fun c_1736 => ?_) (fun c_1736 => absurd (by decide) c_1736)
      refine zr_iload dL_law_1741 rfl ?_
      refine zr_if_ne (tgt := 1758) dL_law_1743 (by decide) (fun c_1743 => ?_) (fun c_1743 => absurd c_1743 (by decide))
      refine zr_goto (tgt := 2861) dL_law_1758 (by decide) ?_
      exact zr_less (by omega) (by omega) (kk u _ _ _ _ hI F3 ko2)
    · skip
      rcases List.mem_cons.mp hk with ek | hk
      · cases ek
        refine zr_callH (rest := []) dL_law_1713 vL_250 (wN2_appeal hX hc hx) (by omega) (by omega) (by omega) rfl rfl (Nat.le_of_ble_eq_true rfl) rfl (fun v2 s1 h_ => ?_) (fun E1 s1 h_ => by obtain ⟨r, e, -⟩ := h_; cases e)
        obtain ⟨r, e, e2, hq⟩ := h_
        cases e
        rw [e2]
        have F0 := (hr _ hq).1
        have hy0 := zFr.get F0 (by unfold zXr; omega) hyo
        obtain ⟨d2, d29, hr2⟩ := (hr _ hq).2 s1 zFr.rf
        have hy := hy0
        have F1 : zFr σ s1 (fun q => x ≤ q ∧ q < x + 274) := F0.w (fun q hq => by unfold zXr at hq; omega)
        have ko := zFr.get F0 (by unfold zXr; omega) ho
        refine zr_istore (ls' := [some (.ref ((zQ X 37))), some (.ref x), some (.ref ((x + 261))), some (.ref ((x + 273))), some (.ref ((x + 274))), some (.int (nI i)), some (.int 2), l7, l8]) dL_law_1716 (by decide) rfl ?_
        refine zr_aload_n dL_law_1718 rfl ?_
        refine zr_aload_n dL_law_1719 rfl ?_
        refine zr_iload dL_law_1720 rfl ?_
        refine zr_iconst (v := 1) dL_law_1722 (by decide) ?_
        refine zr_iadd dL_law_1723 ?_
        refine zr_eqi (x' := nI (i + 1)) (nI_add i 1) ?_
        refine zr_sat dL_law_1724 (vp_in_nI (n := i + 1) (by omega) (by omega)) ?_
        rw [nI_clamp (n := i + 1) (by omega)]
        refine zr_callVi (rest := []) dL_law_1725 vL_252 hr2 hy (by omega) (by omega) (by omega) rfl rfl (Nat.le_of_ble_eq_true rfl) (by decide) rfl (fun r3 u h3 => ?_)
        obtain ⟨er, F2, hI⟩ := h3
        have F3 : zFr σ u (fun q => x ≤ q ∧ q < x + 274) := zFr.tr F1 F2 (fun q hq => by unfold zMr at hq; omega)
        have ko2 := zFr.get F2 (by unfold zMr; omega) ko
        obtain ⟨F8, h8, e8⟩ := hI.oy
        refine zr_istore (ls' := [some (.ref ((zQ X 37))), some (.ref x), some (.ref ((x + 261))), some (.ref ((x + 273))), some (.ref ((x + 274))), some (.int (nI i)), some (.int 2), some (.int r3), l8]) dL_law_1728 (by decide) rfl ?_
        refine zr_aload_n dL_law_1730 rfl ?_
        refine zr_pVi (rest := []) dL_law_1731 vL_173 (qX10_thrown hX h8) h8 (by omega) (by omega) (by omega) rfl rfl (Nat.le_of_ble_eq_true rfl) (by decide) rfl ?_
        refine zr_eqi (x' := 2) e8 ?_
        refine zr_iload dL_law_1734 rfl ?_
        refine zr_icmp_eq (tgt := 1741) dL_law_1736 (by decide) (fun c_1736 => ?_) (fun c_1736 => absurd (by decide) c_1736)
        refine zr_iload dL_law_1741 rfl ?_
        refine zr_if_ne (tgt := 1758) dL_law_1743 (by decide) (fun c_1743 => ?_) (fun c_1743 => absurd c_1743 (by decide))
        refine zr_goto (tgt := 2861) dL_law_1758 (by decide) ?_
        exact zr_less (by omega) (by omega) (kk u _ _ _ _ hI F3 ko2)
      · skip
        cases hk

set_option maxHeartbeats 400000 in
set_option maxRecDepth 100000 in
theorem blk_isDecided {X : zX} (hX : X.1.stackTraces = false) {Q : zO → zS → Prop} {σ : zS} {x i bc bs : Nat} {l6 l7 l8 : Option Value} {f : Nat → Int64} (hQ : ∀ i j : Nat, i < 7 → j < 7 → zQ X i = zQ X j → i = j) (hi : i + 4 ≤ zsL X) (hs : zsL X < 2 ^ 31) (hI0 : zIv x (x + 261) 0 σ ∨ ∃ cd, zIv x (x + 261) cd σ) (hN : σ.2 = none) (ho : σ.1 (x + 273) = .inl (3, 1, .inr (.inl f))) (kk : ∀ (s : zS) (cd : Int32) (f2 : Nat → Int64) (m6 m7 : Option Value), zIv x (x + 261) cd s → zFr σ s (fun q => x ≤ q ∧ q < x + 274) → s.1 (x + 273) = .inl (3, 1, .inr (.inl f2)) → zW X mL_law 12 bc bs Q 2861 [some (.ref (zQ X 37)), some (.ref x), some (.ref (x + 261)), some (.ref (x + 273)), some (.ref (x + 274)), some (.int (nI i)), m6, m7, l8] [] s) : zW X mL_law 12 (bc + 1) (bs + 6) Q 1761 [some (.ref (zQ X 37)), some (.ref x), some (.ref (x + 261)), some (.ref (x + 273)), some (.ref (x + 274)), some (.int (nI i)), l6, l7, l8] [] σ := by
  have hs2 : zsL X = X.2.2.2.2.2.1 := rfl
  obtain ⟨cd, hI⟩ : ∃ cd, zIv x (x + 261) cd σ := hI0.elim (fun h => ⟨_, h⟩) id
  obtain ⟨fs, hx⟩ := hI.ox
  obtain ⟨Fo, hyo, -⟩ := hI.oy
  obtain ⟨⟨A, S, m, U, n, T, ll, ln, hs1, kf, ld, dt, dc⟩, hK, hM, hL⟩ := hI
  refine zr_aload_n dL_law_1761 rfl ?_
  refine zr_aload_n dL_law_1762 rfl ?_
  refine zr_iload dL_law_1763 rfl ?_
  refine zr_iconst (v := 1) dL_law_1765 (by decide) ?_
  refine zr_iadd dL_law_1766 ?_
  refine zr_eqi (x' := nI (i + 1)) (nI_add i 1) ?_
  refine zr_sat dL_law_1767 (vp_in_nI (n := i + 1) (by omega) (by omega)) ?_
  rw [nI_clamp (n := i + 1) (by omega)]
  refine zr_aload_n dL_law_1768 rfl ?_
  have hsm := sem_isDecided hX hK hM hL hN hQ (X.2.2.2.2.2.2 (i + 1))
  rcases hsm with ⟨v, d1, mc, ms, Qs, d9, m1, m6, hc, hr⟩ | ⟨E, k, d1, mc, ms, Qs, hk, d9, m1, m6, hc, hr⟩
  · refine zr_callH (rest := []) dL_law_1769 vL_253 (wOK_isDecided hX hc hx (fun s2 hq => zFr.get (hr s2 hq).1 (by unfold zXr; omega) ho)) (by omega) (by omega) (by omega) rfl rfl (Nat.le_of_ble_eq_true rfl) rfl (fun v2 s1 h_ => ?_) (fun E1 s1 h_ => by obtain ⟨r, e, -⟩ := h_; cases e)
    obtain ⟨r, e, e2, s2, hq, et⟩ := h_
    cases e
    rw [e2]
    have F0 := (hr _ hq).1
    have hy0 := zFr.get F0 (by unfold zXr; omega) hyo
    have Ft : zFr s2 s1 (zOu x) := by rw [et]; exact ⟨rfl, fun a ha => zup_ne _ _ (fun z => ha (by unfold zOu; omega))⟩
    obtain ⟨d2, d29, hr2⟩ := (hr _ hq).2 s1 Ft
    have hy := zFr.get Ft (by unfold zOu; omega) hy0
    have F1 : zFr σ s1 (fun q => x ≤ q ∧ q < x + 274) := zFr.tr (F0.w (fun q hq => by unfold zXr at hq; omega)) (P := fun q => x ≤ q ∧ q < x + 274) (show zFr s2 s1 (fun q => x ≤ q ∧ q < x + 274) from by rw [et]; exact ⟨rfl, fun a ha => zup_ne _ _ (fun z => ha (by omega))⟩) (fun q hq => hq)
    have ko : s1.1 (x + 273) = .inl (3, 1, .inr (.inl (vp_updL f 0 (if v = 0 then 0 else 1)))) := by rw [et]; exact zup_at _ _ _
    refine zr_istore (ls' := [some (.ref ((zQ X 37))), some (.ref x), some (.ref ((x + 261))), some (.ref ((x + 273))), some (.ref ((x + 274))), some (.int (nI i)), some (.int 0), l7, l8]) dL_law_1772 (by decide) rfl ?_
    refine zr_aload_n dL_law_1774 rfl ?_
    refine zr_aload_n dL_law_1775 rfl ?_
    refine zr_iload dL_law_1776 rfl ?_
    refine zr_iconst (v := 1) dL_law_1778 (by decide) ?_
    refine zr_iadd dL_law_1779 ?_
    refine zr_eqi (x' := nI (i + 1)) (nI_add i 1) ?_
    refine zr_sat dL_law_1780 (vp_in_nI (n := i + 1) (by omega) (by omega)) ?_
    rw [nI_clamp (n := i + 1) (by omega)]
    refine zr_callVi (rest := []) dL_law_1781 vL_255 hr2 hy (by omega) (by omega) (by omega) rfl rfl (Nat.le_of_ble_eq_true rfl) (by decide) rfl (fun r3 u h3 => ?_)
    obtain ⟨er, F2, hI⟩ := h3
    rw [er]
    have F3 : zFr σ u (fun q => x ≤ q ∧ q < x + 274) := zFr.tr F1 F2 (fun q hq => by unfold zMr at hq; omega)
    have ko2 := zFr.get F2 (by unfold zMr; omega) ko
    obtain ⟨F8, h8, e8⟩ := hI.oy
    refine zr_istore (ls' := [some (.ref ((zQ X 37))), some (.ref x), some (.ref ((x + 261))), some (.ref ((x + 273))), some (.ref ((x + 274))), some (.int (nI i)), some (.int 0), some (.int v), l8]) dL_law_1784 (by decide) rfl ?_
    refine zr_aload_n dL_law_1786 rfl ?_
    refine zr_pVi (rest := []) dL_law_1787 vL_173 (qX10_thrown hX h8) h8 (by omega) (by omega) (by omega) rfl rfl (Nat.le_of_ble_eq_true rfl) (by decide) rfl ?_
    refine zr_eqi (x' := 0) e8 ?_
    refine zr_iload dL_law_1790 rfl ?_
    refine zr_icmp_eq (tgt := 1797) dL_law_1792 (by decide) (fun c_1792 => ?_) (fun c_1792 => absurd (by decide) c_1792)
    refine zr_iload dL_law_1797 rfl ?_
    refine zr_if_ne (tgt := 1821) dL_law_1799 (by decide) (fun c_1799 => absurd (by decide) c_1799) (fun c_1799 => ?_)
    refine zr_aload_n dL_law_1802 rfl ?_
    refine zr_iconst (v := 0) dL_law_1803 (by decide) ?_
    refine zr_laload dL_law_1804 ko2 (vp_in_nI (n := 0) (by omega) (by omega)) ?_
    rw [show (0 : Int32).toNatClampNeg = 0 from by decide]
    refine zr_eql (x' := (if v = 0 then 0 else 1)) (by unfold vp_updL; rw [if_pos rfl]) ?_
    refine zr_iload dL_law_1805 rfl ?_
    refine zr_if_eq (tgt := 1814) dL_law_1807 (by decide) (fun c_1807 => ?_) (fun c_1807 => ?_)
    · refine zr_lconst (v := 0) dL_law_1814 (by decide) ?_
      refine zr_lcmp dL_law_1815 ?_
      refine zr_eqi (x' := 0) (by rw [if_pos c_1807]; exact lcmp_self _) ?_
      refine zr_if_eq (tgt := 1821) dL_law_1816 (by decide) (fun c_1816 => ?_) (fun c_1816 => absurd (by decide) c_1816)
      refine zr_goto (tgt := 2861) dL_law_1821 (by decide) ?_
      exact zr_less (by omega) (by omega) (kk u _ _ _ _ hI F3 ko2)
    · refine zr_lconst (v := 1) dL_law_1810 (by decide) ?_
      refine zr_goto (tgt := 1815) dL_law_1811 (by decide) ?_
      refine zr_lcmp dL_law_1815 ?_
      refine zr_eqi (x' := 0) (by rw [if_neg c_1807]; exact lcmp_self _) ?_
      refine zr_if_eq (tgt := 1821) dL_law_1816 (by decide) (fun c_1816 => ?_) (fun c_1816 => absurd (by decide) c_1816)
      refine zr_goto (tgt := 2861) dL_law_1821 (by decide) ?_
      exact zr_less (by omega) (by omega) (kk u _ _ _ _ hI F3 ko2)
  · skip
    rcases List.mem_cons.mp hk with ek | hk
    · cases ek
      refine zr_callH (rest := []) dL_law_1769 vL_253 (wN1_isDecided hX hc hx) (by omega) (by omega) (by omega) rfl rfl (Nat.le_of_ble_eq_true rfl) rfl (fun v2 s1 h_ => ?_) (fun E1 s1 h_ => by obtain ⟨r, e, -⟩ := h_; cases e)
      obtain ⟨r, e, e2, hq⟩ := h_
      cases e
      rw [e2]
      have F0 := (hr _ hq).1
      have hy0 := zFr.get F0 (by unfold zXr; omega) hyo
      obtain ⟨d2, d29, hr2⟩ := (hr _ hq).2 s1 zFr.rf
      have hy := hy0
      have F1 : zFr σ s1 (fun q => x ≤ q ∧ q < x + 274) := F0.w (fun q hq => by unfold zXr at hq; omega)
      have ko := zFr.get F0 (by unfold zXr; omega) ho
      refine zr_istore (ls' := [some (.ref ((zQ X 37))), some (.ref x), some (.ref ((x + 261))), some (.ref ((x + 273))), some (.ref ((x + 274))), some (.int (nI i)), some (.int 1), l7, l8]) dL_law_1772 (by decide) rfl ?_
      refine zr_aload_n dL_law_1774 rfl ?_
      refine zr_aload_n dL_law_1775 rfl ?_
      refine zr_iload dL_law_1776 rfl ?_
      refine zr_iconst (v := 1) dL_law_1778 (by decide) ?_
      refine zr_iadd dL_law_1779 ?_
      refine zr_eqi (x' := nI (i + 1)) (nI_add i 1) ?_
      refine zr_sat dL_law_1780 (vp_in_nI (n := i + 1) (by omega) (by omega)) ?_
      rw [nI_clamp (n := i + 1) (by omega)]
      refine zr_callVi (rest := []) dL_law_1781 vL_255 hr2 hy (by omega) (by omega) (by omega) rfl rfl (Nat.le_of_ble_eq_true rfl) (by decide) rfl (fun r3 u h3 => ?_)
      obtain ⟨er, F2, hI⟩ := h3
      have F3 : zFr σ u (fun q => x ≤ q ∧ q < x + 274) := zFr.tr F1 F2 (fun q hq => by unfold zMr at hq; omega)
      have ko2 := zFr.get F2 (by unfold zMr; omega) ko
      obtain ⟨F8, h8, e8⟩ := hI.oy
      refine zr_istore (ls' := [some (.ref ((zQ X 37))), some (.ref x), some (.ref ((x + 261))), some (.ref ((x + 273))), some (.ref ((x + 274))), some (.int (nI i)), some (.int 1), some (.int r3), l8]) dL_law_1784 (by decide) rfl ?_
      refine zr_aload_n dL_law_1786 rfl ?_
      refine zr_pVi (rest := []) dL_law_1787 vL_173 (qX10_thrown hX h8) h8 (by omega) (by omega) (by omega) rfl rfl (Nat.le_of_ble_eq_true rfl) (by decide) rfl ?_
      refine zr_eqi (x' := 1) e8 ?_
      refine zr_iload dL_law_1790 rfl ?_
      refine zr_icmp_eq (tgt := 1797) dL_law_1792 (by decide) (fun c_1792 => ?_) (fun c_1792 => absurd (by decide) c_1792)
      refine zr_iload dL_law_1797 rfl ?_
      refine zr_if_ne (tgt := 1821) dL_law_1799 (by decide) (fun c_1799 => ?_) (fun c_1799 => absurd c_1799 (by decide))
      refine zr_goto (tgt := 2861) dL_law_1821 (by decide) ?_
      exact zr_less (by omega) (by omega) (kk u _ _ _ _ hI F3 ko2)
    · skip
      cases hk

set_option maxHeartbeats 400000 in
set_option maxRecDepth 100000 in
theorem blk_isTangled {X : zX} (hX : X.1.stackTraces = false) {Q : zO → zS → Prop} {σ : zS} {x i bc bs : Nat} {l6 l7 l8 : Option Value} {f : Nat → Int64} (hQ : ∀ i j : Nat, i < 7 → j < 7 → zQ X i = zQ X j → i = j) (hi : i + 4 ≤ zsL X) (hs : zsL X < 2 ^ 31) (hI0 : zIv x (x + 261) 0 σ ∨ ∃ cd, zIv x (x + 261) cd σ) (hN : σ.2 = none) (ho : σ.1 (x + 273) = .inl (3, 1, .inr (.inl f))) (kk : ∀ (s : zS) (cd : Int32) (f2 : Nat → Int64) (m6 m7 : Option Value), zIv x (x + 261) cd s → zFr σ s (fun q => x ≤ q ∧ q < x + 274) → s.1 (x + 273) = .inl (3, 1, .inr (.inl f2)) → zW X mL_law 12 bc bs Q 2861 [some (.ref (zQ X 37)), some (.ref x), some (.ref (x + 261)), some (.ref (x + 273)), some (.ref (x + 274)), some (.int (nI i)), m6, m7, l8] [] s) : zW X mL_law 12 (bc + 1) (bs + 6) Q 1824 [some (.ref (zQ X 37)), some (.ref x), some (.ref (x + 261)), some (.ref (x + 273)), some (.ref (x + 274)), some (.int (nI i)), l6, l7, l8] [] σ := by
  have hs2 : zsL X = X.2.2.2.2.2.1 := rfl
  obtain ⟨cd, hI⟩ : ∃ cd, zIv x (x + 261) cd σ := hI0.elim (fun h => ⟨_, h⟩) id
  obtain ⟨fs, hx⟩ := hI.ox
  obtain ⟨Fo, hyo, -⟩ := hI.oy
  obtain ⟨⟨A, S, m, U, n, T, ll, ln, hs1, kf, ld, dt, dc⟩, hK, hM, hL⟩ := hI
  refine zr_aload_n dL_law_1824 rfl ?_
  refine zr_aload_n dL_law_1825 rfl ?_
  refine zr_iload dL_law_1826 rfl ?_
  refine zr_iconst (v := 1) dL_law_1828 (by decide) ?_
  refine zr_iadd dL_law_1829 ?_
  refine zr_eqi (x' := nI (i + 1)) (nI_add i 1) ?_
  refine zr_sat dL_law_1830 (vp_in_nI (n := i + 1) (by omega) (by omega)) ?_
  rw [nI_clamp (n := i + 1) (by omega)]
  refine zr_aload_n dL_law_1831 rfl ?_
  have hsm := sem_isTangled hX hK hM hL hN hQ (X.2.2.2.2.2.2 (i + 1))
  rcases hsm with ⟨v, d1, mc, ms, Qs, d9, m1, m6, hc, hr⟩ | ⟨E, k, d1, mc, ms, Qs, hk, d9, m1, m6, hc, hr⟩
  · refine zr_callH (rest := []) dL_law_1832 vL_256 (wOK_isTangled hX hc hx (fun s2 hq => zFr.get (hr s2 hq).1 (by unfold zXr; omega) ho)) (by omega) (by omega) (by omega) rfl rfl (Nat.le_of_ble_eq_true rfl) rfl (fun v2 s1 h_ => ?_) (fun E1 s1 h_ => by obtain ⟨r, e, -⟩ := h_; cases e)
    obtain ⟨r, e, e2, s2, hq, et⟩ := h_
    cases e
    rw [e2]
    have F0 := (hr _ hq).1
    have hy0 := zFr.get F0 (by unfold zXr; omega) hyo
    have Ft : zFr s2 s1 (zOu x) := by rw [et]; exact ⟨rfl, fun a ha => zup_ne _ _ (fun z => ha (by unfold zOu; omega))⟩
    obtain ⟨d2, d29, hr2⟩ := (hr _ hq).2 s1 Ft
    have hy := zFr.get Ft (by unfold zOu; omega) hy0
    have F1 : zFr σ s1 (fun q => x ≤ q ∧ q < x + 274) := zFr.tr (F0.w (fun q hq => by unfold zXr at hq; omega)) (P := fun q => x ≤ q ∧ q < x + 274) (show zFr s2 s1 (fun q => x ≤ q ∧ q < x + 274) from by rw [et]; exact ⟨rfl, fun a ha => zup_ne _ _ (fun z => ha (by omega))⟩) (fun q hq => hq)
    have ko : s1.1 (x + 273) = .inl (3, 1, .inr (.inl (vp_updL f 0 (if v = 0 then 0 else 1)))) := by rw [et]; exact zup_at _ _ _
    refine zr_istore (ls' := [some (.ref ((zQ X 37))), some (.ref x), some (.ref ((x + 261))), some (.ref ((x + 273))), some (.ref ((x + 274))), some (.int (nI i)), some (.int 0), l7, l8]) dL_law_1835 (by decide) rfl ?_
    refine zr_aload_n dL_law_1837 rfl ?_
    refine zr_aload_n dL_law_1838 rfl ?_
    refine zr_iload dL_law_1839 rfl ?_
    refine zr_iconst (v := 1) dL_law_1841 (by decide) ?_
    refine zr_iadd dL_law_1842 ?_
    refine zr_eqi (x' := nI (i + 1)) (nI_add i 1) ?_
    refine zr_sat dL_law_1843 (vp_in_nI (n := i + 1) (by omega) (by omega)) ?_
    rw [nI_clamp (n := i + 1) (by omega)]
    refine zr_callVi (rest := []) dL_law_1844 vL_258 hr2 hy (by omega) (by omega) (by omega) rfl rfl (Nat.le_of_ble_eq_true rfl) (by decide) rfl (fun r3 u h3 => ?_)
    obtain ⟨er, F2, hI⟩ := h3
    rw [er]
    have F3 : zFr σ u (fun q => x ≤ q ∧ q < x + 274) := zFr.tr F1 F2 (fun q hq => by unfold zMr at hq; omega)
    have ko2 := zFr.get F2 (by unfold zMr; omega) ko
    obtain ⟨F8, h8, e8⟩ := hI.oy
    refine zr_istore (ls' := [some (.ref ((zQ X 37))), some (.ref x), some (.ref ((x + 261))), some (.ref ((x + 273))), some (.ref ((x + 274))), some (.int (nI i)), some (.int 0), some (.int v), l8]) dL_law_1847 (by decide) rfl ?_
    refine zr_aload_n dL_law_1849 rfl ?_
    refine zr_pVi (rest := []) dL_law_1850 vL_173 (qX10_thrown hX h8) h8 (by omega) (by omega) (by omega) rfl rfl (Nat.le_of_ble_eq_true rfl) (by decide) rfl ?_
    refine zr_eqi (x' := 0) e8 ?_
    refine zr_iload dL_law_1853 rfl ?_
    refine zr_icmp_eq (tgt := 1860) dL_law_1855 (by decide) (fun c_1855 => ?_) (fun c_1855 => absurd (by decide) c_1855)
    refine zr_iload dL_law_1860 rfl ?_
    refine zr_if_ne (tgt := 1884) dL_law_1862 (by decide) (fun c_1862 => absurd (by decide) c_1862) (fun c_1862 => ?_)
    refine zr_aload_n dL_law_1865 rfl ?_
    refine zr_iconst (v := 0) dL_law_1866 (by decide) ?_
    refine zr_laload dL_law_1867 ko2 (vp_in_nI (n := 0) (by omega) (by omega)) ?_
    rw [show (0 : Int32).toNatClampNeg = 0 from by decide]
    refine zr_eql (x' := (if v = 0 then 0 else 1)) (by unfold vp_updL; rw [if_pos rfl]) ?_
    refine zr_iload dL_law_1868 rfl ?_
    refine zr_if_eq (tgt := 1877) dL_law_1870 (by decide) (fun c_1870 => ?_) (fun c_1870 => ?_)
    · refine zr_lconst (v := 0) dL_law_1877 (by decide) ?_
      refine zr_lcmp dL_law_1878 ?_
      refine zr_eqi (x' := 0) (by rw [if_pos c_1870]; exact lcmp_self _) ?_
      refine zr_if_eq (tgt := 1884) dL_law_1879 (by decide) (fun c_1879 => ?_) (fun c_1879 => absurd (by decide) c_1879)
      refine zr_goto (tgt := 2861) dL_law_1884 (by decide) ?_
      exact zr_less (by omega) (by omega) (kk u _ _ _ _ hI F3 ko2)
    · refine zr_lconst (v := 1) dL_law_1873 (by decide) ?_
      refine zr_goto (tgt := 1878) dL_law_1874 (by decide) ?_
      refine zr_lcmp dL_law_1878 ?_
      refine zr_eqi (x' := 0) (by rw [if_neg c_1870]; exact lcmp_self _) ?_
      refine zr_if_eq (tgt := 1884) dL_law_1879 (by decide) (fun c_1879 => ?_) (fun c_1879 => absurd (by decide) c_1879)
      refine zr_goto (tgt := 2861) dL_law_1884 (by decide) ?_
      exact zr_less (by omega) (by omega) (kk u _ _ _ _ hI F3 ko2)
  · skip
    rcases List.mem_cons.mp hk with ek | hk
    · cases ek
      refine zr_callH (rest := []) dL_law_1832 vL_256 (wN1_isTangled hX hc hx) (by omega) (by omega) (by omega) rfl rfl (Nat.le_of_ble_eq_true rfl) rfl (fun v2 s1 h_ => ?_) (fun E1 s1 h_ => by obtain ⟨r, e, -⟩ := h_; cases e)
      obtain ⟨r, e, e2, hq⟩ := h_
      cases e
      rw [e2]
      have F0 := (hr _ hq).1
      have hy0 := zFr.get F0 (by unfold zXr; omega) hyo
      obtain ⟨d2, d29, hr2⟩ := (hr _ hq).2 s1 zFr.rf
      have hy := hy0
      have F1 : zFr σ s1 (fun q => x ≤ q ∧ q < x + 274) := F0.w (fun q hq => by unfold zXr at hq; omega)
      have ko := zFr.get F0 (by unfold zXr; omega) ho
      refine zr_istore (ls' := [some (.ref ((zQ X 37))), some (.ref x), some (.ref ((x + 261))), some (.ref ((x + 273))), some (.ref ((x + 274))), some (.int (nI i)), some (.int 1), l7, l8]) dL_law_1835 (by decide) rfl ?_
      refine zr_aload_n dL_law_1837 rfl ?_
      refine zr_aload_n dL_law_1838 rfl ?_
      refine zr_iload dL_law_1839 rfl ?_
      refine zr_iconst (v := 1) dL_law_1841 (by decide) ?_
      refine zr_iadd dL_law_1842 ?_
      refine zr_eqi (x' := nI (i + 1)) (nI_add i 1) ?_
      refine zr_sat dL_law_1843 (vp_in_nI (n := i + 1) (by omega) (by omega)) ?_
      rw [nI_clamp (n := i + 1) (by omega)]
      refine zr_callVi (rest := []) dL_law_1844 vL_258 hr2 hy (by omega) (by omega) (by omega) rfl rfl (Nat.le_of_ble_eq_true rfl) (by decide) rfl (fun r3 u h3 => ?_)
      obtain ⟨er, F2, hI⟩ := h3
      have F3 : zFr σ u (fun q => x ≤ q ∧ q < x + 274) := zFr.tr F1 F2 (fun q hq => by unfold zMr at hq; omega)
      have ko2 := zFr.get F2 (by unfold zMr; omega) ko
      obtain ⟨F8, h8, e8⟩ := hI.oy
      refine zr_istore (ls' := [some (.ref ((zQ X 37))), some (.ref x), some (.ref ((x + 261))), some (.ref ((x + 273))), some (.ref ((x + 274))), some (.int (nI i)), some (.int 1), some (.int r3), l8]) dL_law_1847 (by decide) rfl ?_
      refine zr_aload_n dL_law_1849 rfl ?_
      refine zr_pVi (rest := []) dL_law_1850 vL_173 (qX10_thrown hX h8) h8 (by omega) (by omega) (by omega) rfl rfl (Nat.le_of_ble_eq_true rfl) (by decide) rfl ?_
      refine zr_eqi (x' := 1) e8 ?_
      refine zr_iload dL_law_1853 rfl ?_
      refine zr_icmp_eq (tgt := 1860) dL_law_1855 (by decide) (fun c_1855 => ?_) (fun c_1855 => absurd (by decide) c_1855)
      refine zr_iload dL_law_1860 rfl ?_
      refine zr_if_ne (tgt := 1884) dL_law_1862 (by decide) (fun c_1862 => ?_) (fun c_1862 => absurd c_1862 (by decide))
      refine zr_goto (tgt := 2861) dL_law_1884 (by decide) ?_
      exact zr_less (by omega) (by omega) (kk u _ _ _ _ hI F3 ko2)
    · skip
      cases hk

set_option maxHeartbeats 400000 in
set_option maxRecDepth 100000 in
theorem blk_precedentOf {X : zX} (hX : X.1.stackTraces = false) {Q : zO → zS → Prop} {σ : zS} {x i bc bs : Nat} {l6 l7 l8 : Option Value} {f : Nat → Int64} (hQ : ∀ i j : Nat, i < 7 → j < 7 → zQ X i = zQ X j → i = j) (hi : i + 4 ≤ zsL X) (hs : zsL X < 2 ^ 31) (hI0 : zIv x (x + 261) 0 σ ∨ ∃ cd, zIv x (x + 261) cd σ) (hN : σ.2 = none) (ho : σ.1 (x + 273) = .inl (3, 1, .inr (.inl f))) (kk : ∀ (s : zS) (cd : Int32) (f2 : Nat → Int64) (m6 m7 : Option Value), zIv x (x + 261) cd s → zFr σ s (fun q => x ≤ q ∧ q < x + 274) → s.1 (x + 273) = .inl (3, 1, .inr (.inl f2)) → zW X mL_law 12 bc bs Q 2861 [some (.ref (zQ X 37)), some (.ref x), some (.ref (x + 261)), some (.ref (x + 273)), some (.ref (x + 274)), some (.int (nI i)), m6, m7, l8] [] s) : zW X mL_law 12 (bc + 1) (bs + 6) Q 1887 [some (.ref (zQ X 37)), some (.ref x), some (.ref (x + 261)), some (.ref (x + 273)), some (.ref (x + 274)), some (.int (nI i)), l6, l7, l8] [] σ := by
  have hs2 : zsL X = X.2.2.2.2.2.1 := rfl
  obtain ⟨cd, hI⟩ : ∃ cd, zIv x (x + 261) cd σ := hI0.elim (fun h => ⟨_, h⟩) id
  obtain ⟨fs, hx⟩ := hI.ox
  obtain ⟨Fo, hyo, -⟩ := hI.oy
  obtain ⟨⟨A, S, m, U, n, T, ll, ln, hs1, kf, ld, dt, dc⟩, hK, hM, hL⟩ := hI
  refine zr_aload_n dL_law_1887 rfl ?_
  refine zr_aload_n dL_law_1888 rfl ?_
  refine zr_iload dL_law_1889 rfl ?_
  refine zr_iconst (v := 1) dL_law_1891 (by decide) ?_
  refine zr_iadd dL_law_1892 ?_
  refine zr_eqi (x' := nI (i + 1)) (nI_add i 1) ?_
  refine zr_sat dL_law_1893 (vp_in_nI (n := i + 1) (by omega) (by omega)) ?_
  rw [nI_clamp (n := i + 1) (by omega)]
  refine zr_aload_n dL_law_1894 rfl ?_
  have hsm := sem_precedentOf hX hK hM hL hN hQ (X.2.2.2.2.2.2 (i + 1))
  rcases hsm with ⟨v, d1, mc, ms, Qs, d9, m1, m6, hc, hr⟩ | ⟨E, k, d1, mc, ms, Qs, hk, d9, m1, m6, hc, hr⟩
  · refine zr_callH (rest := []) dL_law_1895 vL_259 (wOK_precedentOf hX hc hx (fun s2 hq => zFr.get (hr s2 hq).1 (by unfold zXr; omega) ho)) (by omega) (by omega) (by omega) rfl rfl (Nat.le_of_ble_eq_true rfl) rfl (fun v2 s1 h_ => ?_) (fun E1 s1 h_ => by obtain ⟨r, e, -⟩ := h_; cases e)
    obtain ⟨r, e, e2, s2, hq, et⟩ := h_
    cases e
    rw [e2]
    have F0 := (hr _ hq).1
    have hy0 := zFr.get F0 (by unfold zXr; omega) hyo
    have Ft : zFr s2 s1 (zOu x) := by rw [et]; exact ⟨rfl, fun a ha => zup_ne _ _ (fun z => ha (by unfold zOu; omega))⟩
    obtain ⟨d2, d29, hr2⟩ := (hr _ hq).2 s1 Ft
    have hy := zFr.get Ft (by unfold zOu; omega) hy0
    have F1 : zFr σ s1 (fun q => x ≤ q ∧ q < x + 274) := zFr.tr (F0.w (fun q hq => by unfold zXr at hq; omega)) (P := fun q => x ≤ q ∧ q < x + 274) (show zFr s2 s1 (fun q => x ≤ q ∧ q < x + 274) from by rw [et]; exact ⟨rfl, fun a ha => zup_ne _ _ (fun z => ha (by omega))⟩) (fun q hq => hq)
    have ko : s1.1 (x + 273) = .inl (3, 1, .inr (.inl (vp_updL f 0 v.toInt64))) := by rw [et]; exact zup_at _ _ _
    refine zr_istore (ls' := [some (.ref ((zQ X 37))), some (.ref x), some (.ref ((x + 261))), some (.ref ((x + 273))), some (.ref ((x + 274))), some (.int (nI i)), some (.int 0), l7, l8]) dL_law_1898 (by decide) rfl ?_
    refine zr_aload_n dL_law_1900 rfl ?_
    refine zr_aload_n dL_law_1901 rfl ?_
    refine zr_iload dL_law_1902 rfl ?_
    refine zr_iconst (v := 1) dL_law_1904 (by decide) ?_
    refine zr_iadd dL_law_1905 ?_
    refine zr_eqi (x' := nI (i + 1)) (nI_add i 1) ?_
    refine zr_sat dL_law_1906 (vp_in_nI (n := i + 1) (by omega) (by omega)) ?_
    rw [nI_clamp (n := i + 1) (by omega)]
    refine zr_callVi (rest := []) dL_law_1907 vL_261 hr2 hy (by omega) (by omega) (by omega) rfl rfl (Nat.le_of_ble_eq_true rfl) (by decide) rfl (fun r3 u h3 => ?_)
    obtain ⟨er, F2, hI⟩ := h3
    rw [er]
    have F3 : zFr σ u (fun q => x ≤ q ∧ q < x + 274) := zFr.tr F1 F2 (fun q hq => by unfold zMr at hq; omega)
    have ko2 := zFr.get F2 (by unfold zMr; omega) ko
    obtain ⟨F8, h8, e8⟩ := hI.oy
    refine zr_istore (ls' := [some (.ref ((zQ X 37))), some (.ref x), some (.ref ((x + 261))), some (.ref ((x + 273))), some (.ref ((x + 274))), some (.int (nI i)), some (.int 0), some (.int v), l8]) dL_law_1910 (by decide) rfl ?_
    refine zr_aload_n dL_law_1912 rfl ?_
    refine zr_pVi (rest := []) dL_law_1913 vL_173 (qX10_thrown hX h8) h8 (by omega) (by omega) (by omega) rfl rfl (Nat.le_of_ble_eq_true rfl) (by decide) rfl ?_
    refine zr_eqi (x' := 0) e8 ?_
    refine zr_iload dL_law_1916 rfl ?_
    refine zr_icmp_eq (tgt := 1923) dL_law_1918 (by decide) (fun c_1918 => ?_) (fun c_1918 => absurd (by decide) c_1918)
    refine zr_iload dL_law_1923 rfl ?_
    refine zr_if_ne (tgt := 1940) dL_law_1925 (by decide) (fun c_1925 => absurd (by decide) c_1925) (fun c_1925 => ?_)
    refine zr_aload_n dL_law_1928 rfl ?_
    refine zr_iconst (v := 0) dL_law_1929 (by decide) ?_
    refine zr_laload dL_law_1930 ko2 (vp_in_nI (n := 0) (by omega) (by omega)) ?_
    rw [show (0 : Int32).toNatClampNeg = 0 from by decide]
    refine zr_eql (x' := v.toInt64) (by unfold vp_updL; rw [if_pos rfl]) ?_
    refine zr_iload dL_law_1931 rfl ?_
    refine zr_i2l dL_law_1933 ?_
    refine zr_lcmp dL_law_1934 ?_
    refine zr_eqi (x' := 0) (lcmp_self _) ?_
    refine zr_if_eq (tgt := 1940) dL_law_1935 (by decide) (fun c_1935 => ?_) (fun c_1935 => absurd (by decide) c_1935)
    refine zr_goto (tgt := 2861) dL_law_1940 (by decide) ?_
    exact zr_less (by omega) (by omega) (kk u _ _ _ _ hI F3 ko2)
  · skip
    rcases List.mem_cons.mp hk with ek | hk
    · cases ek
      refine zr_callH (rest := []) dL_law_1895 vL_259 (wN1_precedentOf hX hc hx) (by omega) (by omega) (by omega) rfl rfl (Nat.le_of_ble_eq_true rfl) rfl (fun v2 s1 h_ => ?_) (fun E1 s1 h_ => by obtain ⟨r, e, -⟩ := h_; cases e)
      obtain ⟨r, e, e2, hq⟩ := h_
      cases e
      rw [e2]
      have F0 := (hr _ hq).1
      have hy0 := zFr.get F0 (by unfold zXr; omega) hyo
      obtain ⟨d2, d29, hr2⟩ := (hr _ hq).2 s1 zFr.rf
      have hy := hy0
      have F1 : zFr σ s1 (fun q => x ≤ q ∧ q < x + 274) := F0.w (fun q hq => by unfold zXr at hq; omega)
      have ko := zFr.get F0 (by unfold zXr; omega) ho
      refine zr_istore (ls' := [some (.ref ((zQ X 37))), some (.ref x), some (.ref ((x + 261))), some (.ref ((x + 273))), some (.ref ((x + 274))), some (.int (nI i)), some (.int 1), l7, l8]) dL_law_1898 (by decide) rfl ?_
      refine zr_aload_n dL_law_1900 rfl ?_
      refine zr_aload_n dL_law_1901 rfl ?_
      refine zr_iload dL_law_1902 rfl ?_
      refine zr_iconst (v := 1) dL_law_1904 (by decide) ?_
      refine zr_iadd dL_law_1905 ?_
      refine zr_eqi (x' := nI (i + 1)) (nI_add i 1) ?_
      refine zr_sat dL_law_1906 (vp_in_nI (n := i + 1) (by omega) (by omega)) ?_
      rw [nI_clamp (n := i + 1) (by omega)]
      refine zr_callVi (rest := []) dL_law_1907 vL_261 hr2 hy (by omega) (by omega) (by omega) rfl rfl (Nat.le_of_ble_eq_true rfl) (by decide) rfl (fun r3 u h3 => ?_)
      obtain ⟨er, F2, hI⟩ := h3
      have F3 : zFr σ u (fun q => x ≤ q ∧ q < x + 274) := zFr.tr F1 F2 (fun q hq => by unfold zMr at hq; omega)
      have ko2 := zFr.get F2 (by unfold zMr; omega) ko
      obtain ⟨F8, h8, e8⟩ := hI.oy
      refine zr_istore (ls' := [some (.ref ((zQ X 37))), some (.ref x), some (.ref ((x + 261))), some (.ref ((x + 273))), some (.ref ((x + 274))), some (.int (nI i)), some (.int 1), some (.int r3), l8]) dL_law_1910 (by decide) rfl ?_
      refine zr_aload_n dL_law_1912 rfl ?_
      refine zr_pVi (rest := []) dL_law_1913 vL_173 (qX10_thrown hX h8) h8 (by omega) (by omega) (by omega) rfl rfl (Nat.le_of_ble_eq_true rfl) (by decide) rfl ?_
      refine zr_eqi (x' := 1) e8 ?_
      refine zr_iload dL_law_1916 rfl ?_
      refine zr_icmp_eq (tgt := 1923) dL_law_1918 (by decide) (fun c_1918 => ?_) (fun c_1918 => absurd (by decide) c_1918)
      refine zr_iload dL_law_1923 rfl ?_
      refine zr_if_ne (tgt := 1940) dL_law_1925 (by decide) (fun c_1925 => ?_) (fun c_1925 => absurd c_1925 (by decide))
      refine zr_goto (tgt := 2861) dL_law_1940 (by decide) ?_
      exact zr_less (by omega) (by omega) (kk u _ _ _ _ hI F3 ko2)
    · skip
      rcases List.mem_cons.mp hk with ek | hk
      · cases ek
        refine zr_callH (rest := []) dL_law_1895 vL_259 (wN2_precedentOf hX hc hx) (by omega) (by omega) (by omega) rfl rfl (Nat.le_of_ble_eq_true rfl) rfl (fun v2 s1 h_ => ?_) (fun E1 s1 h_ => by obtain ⟨r, e, -⟩ := h_; cases e)
        obtain ⟨r, e, e2, hq⟩ := h_
        cases e
        rw [e2]
        have F0 := (hr _ hq).1
        have hy0 := zFr.get F0 (by unfold zXr; omega) hyo
        obtain ⟨d2, d29, hr2⟩ := (hr _ hq).2 s1 zFr.rf
        have hy := hy0
        have F1 : zFr σ s1 (fun q => x ≤ q ∧ q < x + 274) := F0.w (fun q hq => by unfold zXr at hq; omega)
        have ko := zFr.get F0 (by unfold zXr; omega) ho
        refine zr_istore (ls' := [some (.ref ((zQ X 37))), some (.ref x), some (.ref ((x + 261))), some (.ref ((x + 273))), some (.ref ((x + 274))), some (.int (nI i)), some (.int 2), l7, l8]) dL_law_1898 (by decide) rfl ?_
        refine zr_aload_n dL_law_1900 rfl ?_
        refine zr_aload_n dL_law_1901 rfl ?_
        refine zr_iload dL_law_1902 rfl ?_
        refine zr_iconst (v := 1) dL_law_1904 (by decide) ?_
        refine zr_iadd dL_law_1905 ?_
        refine zr_eqi (x' := nI (i + 1)) (nI_add i 1) ?_
        refine zr_sat dL_law_1906 (vp_in_nI (n := i + 1) (by omega) (by omega)) ?_
        rw [nI_clamp (n := i + 1) (by omega)]
        refine zr_callVi (rest := []) dL_law_1907 vL_261 hr2 hy (by omega) (by omega) (by omega) rfl rfl (Nat.le_of_ble_eq_true rfl) (by decide) rfl (fun r3 u h3 => ?_)
        obtain ⟨er, F2, hI⟩ := h3
        have F3 : zFr σ u (fun q => x ≤ q ∧ q < x + 274) := zFr.tr F1 F2 (fun q hq => by unfold zMr at hq; omega)
        have ko2 := zFr.get F2 (by unfold zMr; omega) ko
        obtain ⟨F8, h8, e8⟩ := hI.oy
        refine zr_istore (ls' := [some (.ref ((zQ X 37))), some (.ref x), some (.ref ((x + 261))), some (.ref ((x + 273))), some (.ref ((x + 274))), some (.int (nI i)), some (.int 2), some (.int r3), l8]) dL_law_1910 (by decide) rfl ?_
        refine zr_aload_n dL_law_1912 rfl ?_
        refine zr_pVi (rest := []) dL_law_1913 vL_173 (qX10_thrown hX h8) h8 (by omega) (by omega) (by omega) rfl rfl (Nat.le_of_ble_eq_true rfl) (by decide) rfl ?_
        refine zr_eqi (x' := 2) e8 ?_
        refine zr_iload dL_law_1916 rfl ?_
        refine zr_icmp_eq (tgt := 1923) dL_law_1918 (by decide) (fun c_1918 => ?_) (fun c_1918 => absurd (by decide) c_1918)
        refine zr_iload dL_law_1923 rfl ?_
        refine zr_if_ne (tgt := 1940) dL_law_1925 (by decide) (fun c_1925 => ?_) (fun c_1925 => absurd c_1925 (by decide))
        refine zr_goto (tgt := 2861) dL_law_1940 (by decide) ?_
        exact zr_less (by omega) (by omega) (kk u _ _ _ _ hI F3 ko2)
      · skip
        cases hk

set_option maxHeartbeats 400000 in
set_option maxRecDepth 100000 in
theorem blk_findPrecedent {X : zX} (hX : X.1.stackTraces = false) {Q : zO → zS → Prop} {σ : zS} {x i bc bs : Nat} {l6 l7 l8 : Option Value} {f : Nat → Int64} (hQ : ∀ i j : Nat, i < 7 → j < 7 → zQ X i = zQ X j → i = j) (hi : i + 4 ≤ zsL X) (hs : zsL X < 2 ^ 31) (hI0 : zIv x (x + 261) 0 σ ∨ ∃ cd, zIv x (x + 261) cd σ) (hN : σ.2 = none) (ho : σ.1 (x + 273) = .inl (3, 1, .inr (.inl f))) (kk : ∀ (s : zS) (cd : Int32) (f2 : Nat → Int64) (m6 m7 : Option Value), zIv x (x + 261) cd s → zFr σ s (fun q => x ≤ q ∧ q < x + 274) → s.1 (x + 273) = .inl (3, 1, .inr (.inl f2)) → zW X mL_law 12 bc bs Q 2861 [some (.ref (zQ X 37)), some (.ref x), some (.ref (x + 261)), some (.ref (x + 273)), some (.ref (x + 274)), some (.int (nI i)), m6, m7, l8] [] s) : zW X mL_law 12 (bc + 1) (bs + 6) Q 1943 [some (.ref (zQ X 37)), some (.ref x), some (.ref (x + 261)), some (.ref (x + 273)), some (.ref (x + 274)), some (.int (nI i)), l6, l7, l8] [] σ := by
  have hs2 : zsL X = X.2.2.2.2.2.1 := rfl
  obtain ⟨cd, hI⟩ : ∃ cd, zIv x (x + 261) cd σ := hI0.elim (fun h => ⟨_, h⟩) id
  obtain ⟨fs, hx⟩ := hI.ox
  obtain ⟨Fo, hyo, -⟩ := hI.oy
  obtain ⟨⟨A, S, m, U, n, T, ll, ln, hs1, kf, ld, dt, dc⟩, hK, hM, hL⟩ := hI
  refine zr_aload_n dL_law_1943 rfl ?_
  refine zr_aload_n dL_law_1944 rfl ?_
  refine zr_iload dL_law_1945 rfl ?_
  refine zr_iconst (v := 1) dL_law_1947 (by decide) ?_
  refine zr_iadd dL_law_1948 ?_
  refine zr_eqi (x' := nI (i + 1)) (nI_add i 1) ?_
  refine zr_sat dL_law_1949 (vp_in_nI (n := i + 1) (by omega) (by omega)) ?_
  rw [nI_clamp (n := i + 1) (by omega)]
  refine zr_aload_n dL_law_1950 rfl ?_
  have hsm := sem_findPrecedent hX hK hM hL hN hQ (X.2.2.2.2.2.2 (i + 1))
  rcases hsm with ⟨v, d1, mc, ms, Qs, d9, m1, m6, hc, hr⟩ | ⟨E, k, d1, mc, ms, Qs, hk, d9, m1, m6, hc, hr⟩
  · refine zr_callH (rest := []) dL_law_1951 vL_262 (wOK_findPrecedent hX hc hx (fun s2 hq => zFr.get (hr s2 hq).1 (by unfold zXr; omega) ho)) (by omega) (by omega) (by omega) rfl rfl (Nat.le_of_ble_eq_true rfl) rfl (fun v2 s1 h_ => ?_) (fun E1 s1 h_ => by obtain ⟨r, e, -⟩ := h_; cases e)
    obtain ⟨r, e, e2, s2, hq, et⟩ := h_
    cases e
    rw [e2]
    have F0 := (hr _ hq).1
    have hy0 := zFr.get F0 (by unfold zXr; omega) hyo
    have Ft : zFr s2 s1 (zOu x) := by rw [et]; exact ⟨rfl, fun a ha => zup_ne _ _ (fun z => ha (by unfold zOu; omega))⟩
    obtain ⟨d2, d29, hr2⟩ := (hr _ hq).2 s1 Ft
    have hy := zFr.get Ft (by unfold zOu; omega) hy0
    have F1 : zFr σ s1 (fun q => x ≤ q ∧ q < x + 274) := zFr.tr (F0.w (fun q hq => by unfold zXr at hq; omega)) (P := fun q => x ≤ q ∧ q < x + 274) (show zFr s2 s1 (fun q => x ≤ q ∧ q < x + 274) from by rw [et]; exact ⟨rfl, fun a ha => zup_ne _ _ (fun z => ha (by omega))⟩) (fun q hq => hq)
    have ko : s1.1 (x + 273) = .inl (3, 1, .inr (.inl (vp_updL f 0 v.toInt64))) := by rw [et]; exact zup_at _ _ _
    refine zr_istore (ls' := [some (.ref ((zQ X 37))), some (.ref x), some (.ref ((x + 261))), some (.ref ((x + 273))), some (.ref ((x + 274))), some (.int (nI i)), some (.int 0), l7, l8]) dL_law_1954 (by decide) rfl ?_
    refine zr_aload_n dL_law_1956 rfl ?_
    refine zr_aload_n dL_law_1957 rfl ?_
    refine zr_iload dL_law_1958 rfl ?_
    refine zr_iconst (v := 1) dL_law_1960 (by decide) ?_
    refine zr_iadd dL_law_1961 ?_
    refine zr_eqi (x' := nI (i + 1)) (nI_add i 1) ?_
    refine zr_sat dL_law_1962 (vp_in_nI (n := i + 1) (by omega) (by omega)) ?_
    rw [nI_clamp (n := i + 1) (by omega)]
    refine zr_callVi (rest := []) dL_law_1963 vL_264 hr2 hy (by omega) (by omega) (by omega) rfl rfl (Nat.le_of_ble_eq_true rfl) (by decide) rfl (fun r3 u h3 => ?_)
    obtain ⟨er, F2, hI⟩ := h3
    rw [er]
    have F3 : zFr σ u (fun q => x ≤ q ∧ q < x + 274) := zFr.tr F1 F2 (fun q hq => by unfold zMr at hq; omega)
    have ko2 := zFr.get F2 (by unfold zMr; omega) ko
    obtain ⟨F8, h8, e8⟩ := hI.oy
    refine zr_istore (ls' := [some (.ref ((zQ X 37))), some (.ref x), some (.ref ((x + 261))), some (.ref ((x + 273))), some (.ref ((x + 274))), some (.int (nI i)), some (.int 0), some (.int v), l8]) dL_law_1966 (by decide) rfl ?_
    refine zr_aload_n dL_law_1968 rfl ?_
    refine zr_pVi (rest := []) dL_law_1969 vL_173 (qX10_thrown hX h8) h8 (by omega) (by omega) (by omega) rfl rfl (Nat.le_of_ble_eq_true rfl) (by decide) rfl ?_
    refine zr_eqi (x' := 0) e8 ?_
    refine zr_iload dL_law_1972 rfl ?_
    refine zr_icmp_eq (tgt := 1979) dL_law_1974 (by decide) (fun c_1974 => ?_) (fun c_1974 => absurd (by decide) c_1974)
    refine zr_iload dL_law_1979 rfl ?_
    refine zr_if_ne (tgt := 1996) dL_law_1981 (by decide) (fun c_1981 => absurd (by decide) c_1981) (fun c_1981 => ?_)
    refine zr_aload_n dL_law_1984 rfl ?_
    refine zr_iconst (v := 0) dL_law_1985 (by decide) ?_
    refine zr_laload dL_law_1986 ko2 (vp_in_nI (n := 0) (by omega) (by omega)) ?_
    rw [show (0 : Int32).toNatClampNeg = 0 from by decide]
    refine zr_eql (x' := v.toInt64) (by unfold vp_updL; rw [if_pos rfl]) ?_
    refine zr_iload dL_law_1987 rfl ?_
    refine zr_i2l dL_law_1989 ?_
    refine zr_lcmp dL_law_1990 ?_
    refine zr_eqi (x' := 0) (lcmp_self _) ?_
    refine zr_if_eq (tgt := 1996) dL_law_1991 (by decide) (fun c_1991 => ?_) (fun c_1991 => absurd (by decide) c_1991)
    refine zr_goto (tgt := 2861) dL_law_1996 (by decide) ?_
    exact zr_less (by omega) (by omega) (kk u _ _ _ _ hI F3 ko2)
  · skip
    rcases List.mem_cons.mp hk with ek | hk
    · cases ek
      refine zr_callH (rest := []) dL_law_1951 vL_262 (wN1_findPrecedent hX hc hx) (by omega) (by omega) (by omega) rfl rfl (Nat.le_of_ble_eq_true rfl) rfl (fun v2 s1 h_ => ?_) (fun E1 s1 h_ => by obtain ⟨r, e, -⟩ := h_; cases e)
      obtain ⟨r, e, e2, hq⟩ := h_
      cases e
      rw [e2]
      have F0 := (hr _ hq).1
      have hy0 := zFr.get F0 (by unfold zXr; omega) hyo
      obtain ⟨d2, d29, hr2⟩ := (hr _ hq).2 s1 zFr.rf
      have hy := hy0
      have F1 : zFr σ s1 (fun q => x ≤ q ∧ q < x + 274) := F0.w (fun q hq => by unfold zXr at hq; omega)
      have ko := zFr.get F0 (by unfold zXr; omega) ho
      refine zr_istore (ls' := [some (.ref ((zQ X 37))), some (.ref x), some (.ref ((x + 261))), some (.ref ((x + 273))), some (.ref ((x + 274))), some (.int (nI i)), some (.int 1), l7, l8]) dL_law_1954 (by decide) rfl ?_
      refine zr_aload_n dL_law_1956 rfl ?_
      refine zr_aload_n dL_law_1957 rfl ?_
      refine zr_iload dL_law_1958 rfl ?_
      refine zr_iconst (v := 1) dL_law_1960 (by decide) ?_
      refine zr_iadd dL_law_1961 ?_
      refine zr_eqi (x' := nI (i + 1)) (nI_add i 1) ?_
      refine zr_sat dL_law_1962 (vp_in_nI (n := i + 1) (by omega) (by omega)) ?_
      rw [nI_clamp (n := i + 1) (by omega)]
      refine zr_callVi (rest := []) dL_law_1963 vL_264 hr2 hy (by omega) (by omega) (by omega) rfl rfl (Nat.le_of_ble_eq_true rfl) (by decide) rfl (fun r3 u h3 => ?_)
      obtain ⟨er, F2, hI⟩ := h3
      have F3 : zFr σ u (fun q => x ≤ q ∧ q < x + 274) := zFr.tr F1 F2 (fun q hq => by unfold zMr at hq; omega)
      have ko2 := zFr.get F2 (by unfold zMr; omega) ko
      obtain ⟨F8, h8, e8⟩ := hI.oy
      refine zr_istore (ls' := [some (.ref ((zQ X 37))), some (.ref x), some (.ref ((x + 261))), some (.ref ((x + 273))), some (.ref ((x + 274))), some (.int (nI i)), some (.int 1), some (.int r3), l8]) dL_law_1966 (by decide) rfl ?_
      refine zr_aload_n dL_law_1968 rfl ?_
      refine zr_pVi (rest := []) dL_law_1969 vL_173 (qX10_thrown hX h8) h8 (by omega) (by omega) (by omega) rfl rfl (Nat.le_of_ble_eq_true rfl) (by decide) rfl ?_
      refine zr_eqi (x' := 1) e8 ?_
      refine zr_iload dL_law_1972 rfl ?_
      refine zr_icmp_eq (tgt := 1979) dL_law_1974 (by decide) (fun c_1974 => ?_) (fun c_1974 => absurd (by decide) c_1974)
      refine zr_iload dL_law_1979 rfl ?_
      refine zr_if_ne (tgt := 1996) dL_law_1981 (by decide) (fun c_1981 => ?_) (fun c_1981 => absurd c_1981 (by decide))
      refine zr_goto (tgt := 2861) dL_law_1996 (by decide) ?_
      exact zr_less (by omega) (by omega) (kk u _ _ _ _ hI F3 ko2)
    · skip
      rcases List.mem_cons.mp hk with ek | hk
      · cases ek
        refine zr_callH (rest := []) dL_law_1951 vL_262 (wN2_findPrecedent hX hc hx) (by omega) (by omega) (by omega) rfl rfl (Nat.le_of_ble_eq_true rfl) rfl (fun v2 s1 h_ => ?_) (fun E1 s1 h_ => by obtain ⟨r, e, -⟩ := h_; cases e)
        obtain ⟨r, e, e2, hq⟩ := h_
        cases e
        rw [e2]
        have F0 := (hr _ hq).1
        have hy0 := zFr.get F0 (by unfold zXr; omega) hyo
        obtain ⟨d2, d29, hr2⟩ := (hr _ hq).2 s1 zFr.rf
        have hy := hy0
        have F1 : zFr σ s1 (fun q => x ≤ q ∧ q < x + 274) := F0.w (fun q hq => by unfold zXr at hq; omega)
        have ko := zFr.get F0 (by unfold zXr; omega) ho
        refine zr_istore (ls' := [some (.ref ((zQ X 37))), some (.ref x), some (.ref ((x + 261))), some (.ref ((x + 273))), some (.ref ((x + 274))), some (.int (nI i)), some (.int 2), l7, l8]) dL_law_1954 (by decide) rfl ?_
        refine zr_aload_n dL_law_1956 rfl ?_
        refine zr_aload_n dL_law_1957 rfl ?_
        refine zr_iload dL_law_1958 rfl ?_
        refine zr_iconst (v := 1) dL_law_1960 (by decide) ?_
        refine zr_iadd dL_law_1961 ?_
        refine zr_eqi (x' := nI (i + 1)) (nI_add i 1) ?_
        refine zr_sat dL_law_1962 (vp_in_nI (n := i + 1) (by omega) (by omega)) ?_
        rw [nI_clamp (n := i + 1) (by omega)]
        refine zr_callVi (rest := []) dL_law_1963 vL_264 hr2 hy (by omega) (by omega) (by omega) rfl rfl (Nat.le_of_ble_eq_true rfl) (by decide) rfl (fun r3 u h3 => ?_)
        obtain ⟨er, F2, hI⟩ := h3
        have F3 : zFr σ u (fun q => x ≤ q ∧ q < x + 274) := zFr.tr F1 F2 (fun q hq => by unfold zMr at hq; omega)
        have ko2 := zFr.get F2 (by unfold zMr; omega) ko
        obtain ⟨F8, h8, e8⟩ := hI.oy
        refine zr_istore (ls' := [some (.ref ((zQ X 37))), some (.ref x), some (.ref ((x + 261))), some (.ref ((x + 273))), some (.ref ((x + 274))), some (.int (nI i)), some (.int 2), some (.int r3), l8]) dL_law_1966 (by decide) rfl ?_
        refine zr_aload_n dL_law_1968 rfl ?_
        refine zr_pVi (rest := []) dL_law_1969 vL_173 (qX10_thrown hX h8) h8 (by omega) (by omega) (by omega) rfl rfl (Nat.le_of_ble_eq_true rfl) (by decide) rfl ?_
        refine zr_eqi (x' := 2) e8 ?_
        refine zr_iload dL_law_1972 rfl ?_
        refine zr_icmp_eq (tgt := 1979) dL_law_1974 (by decide) (fun c_1974 => ?_) (fun c_1974 => absurd (by decide) c_1974)
        refine zr_iload dL_law_1979 rfl ?_
        refine zr_if_ne (tgt := 1996) dL_law_1981 (by decide) (fun c_1981 => ?_) (fun c_1981 => absurd c_1981 (by decide))
        refine zr_goto (tgt := 2861) dL_law_1996 (by decide) ?_
        exact zr_less (by omega) (by omega) (kk u _ _ _ _ hI F3 ko2)
      · skip
        cases hk

set_option maxHeartbeats 400000 in
set_option maxRecDepth 100000 in
theorem blk_isAppealed {X : zX} (hX : X.1.stackTraces = false) {Q : zO → zS → Prop} {σ : zS} {x i bc bs : Nat} {l6 l7 l8 : Option Value} {f : Nat → Int64} (hQ : ∀ i j : Nat, i < 7 → j < 7 → zQ X i = zQ X j → i = j) (hi : i + 4 ≤ zsL X) (hs : zsL X < 2 ^ 31) (hI0 : zIv x (x + 261) 0 σ ∨ ∃ cd, zIv x (x + 261) cd σ) (hN : σ.2 = none) (ho : σ.1 (x + 273) = .inl (3, 1, .inr (.inl f))) (kk : ∀ (s : zS) (cd : Int32) (f2 : Nat → Int64) (m6 m7 : Option Value), zIv x (x + 261) cd s → zFr σ s (fun q => x ≤ q ∧ q < x + 274) → s.1 (x + 273) = .inl (3, 1, .inr (.inl f2)) → zW X mL_law 12 bc bs Q 2861 [some (.ref (zQ X 37)), some (.ref x), some (.ref (x + 261)), some (.ref (x + 273)), some (.ref (x + 274)), some (.int (nI i)), m6, m7, l8] [] s) : zW X mL_law 12 (bc + 1) (bs + 6) Q 2012 [some (.ref (zQ X 37)), some (.ref x), some (.ref (x + 261)), some (.ref (x + 273)), some (.ref (x + 274)), some (.int (nI i)), l6, l7, l8] [] σ := by
  have hs2 : zsL X = X.2.2.2.2.2.1 := rfl
  obtain ⟨cd, hI⟩ : ∃ cd, zIv x (x + 261) cd σ := hI0.elim (fun h => ⟨_, h⟩) id
  obtain ⟨fs, hx⟩ := hI.ox
  obtain ⟨Fo, hyo, -⟩ := hI.oy
  obtain ⟨⟨A, S, m, U, n, T, ll, ln, hs1, kf, ld, dt, dc⟩, hK, hM, hL⟩ := hI
  refine zr_aload_n dL_law_2012 rfl ?_
  refine zr_aload_n dL_law_2013 rfl ?_
  refine zr_iload dL_law_2014 rfl ?_
  refine zr_iconst (v := 1) dL_law_2016 (by decide) ?_
  refine zr_iadd dL_law_2017 ?_
  refine zr_eqi (x' := nI (i + 1)) (nI_add i 1) ?_
  refine zr_sat dL_law_2018 (vp_in_nI (n := i + 1) (by omega) (by omega)) ?_
  rw [nI_clamp (n := i + 1) (by omega)]
  refine zr_aload_n dL_law_2019 rfl ?_
  have hsm := sem_isAppealed hX hK hM hL hN hQ (X.2.2.2.2.2.2 (i + 1))
  rcases hsm with ⟨v, d1, mc, ms, Qs, d9, m1, m6, hc, hr⟩ | ⟨E, k, d1, mc, ms, Qs, hk, d9, m1, m6, hc, hr⟩
  · refine zr_callH (rest := []) dL_law_2020 vL_269 (wOK_isAppealed hX hc hx (fun s2 hq => zFr.get (hr s2 hq).1 (by unfold zXr; omega) ho)) (by omega) (by omega) (by omega) rfl rfl (Nat.le_of_ble_eq_true rfl) rfl (fun v2 s1 h_ => ?_) (fun E1 s1 h_ => by obtain ⟨r, e, -⟩ := h_; cases e)
    obtain ⟨r, e, e2, s2, hq, et⟩ := h_
    cases e
    rw [e2]
    have F0 := (hr _ hq).1
    have hy0 := zFr.get F0 (by unfold zXr; omega) hyo
    have Ft : zFr s2 s1 (zOu x) := by rw [et]; exact ⟨rfl, fun a ha => zup_ne _ _ (fun z => ha (by unfold zOu; omega))⟩
    obtain ⟨d2, d29, hr2⟩ := (hr _ hq).2 s1 Ft
    have hy := zFr.get Ft (by unfold zOu; omega) hy0
    have F1 : zFr σ s1 (fun q => x ≤ q ∧ q < x + 274) := zFr.tr (F0.w (fun q hq => by unfold zXr at hq; omega)) (P := fun q => x ≤ q ∧ q < x + 274) (show zFr s2 s1 (fun q => x ≤ q ∧ q < x + 274) from by rw [et]; exact ⟨rfl, fun a ha => zup_ne _ _ (fun z => ha (by omega))⟩) (fun q hq => hq)
    have ko : s1.1 (x + 273) = .inl (3, 1, .inr (.inl (vp_updL f 0 (if v = 0 then 0 else 1)))) := by rw [et]; exact zup_at _ _ _
    refine zr_istore (ls' := [some (.ref ((zQ X 37))), some (.ref x), some (.ref ((x + 261))), some (.ref ((x + 273))), some (.ref ((x + 274))), some (.int (nI i)), some (.int 0), l7, l8]) dL_law_2023 (by decide) rfl ?_
    refine zr_aload_n dL_law_2025 rfl ?_
    refine zr_aload_n dL_law_2026 rfl ?_
    refine zr_iload dL_law_2027 rfl ?_
    refine zr_iconst (v := 1) dL_law_2029 (by decide) ?_
    refine zr_iadd dL_law_2030 ?_
    refine zr_eqi (x' := nI (i + 1)) (nI_add i 1) ?_
    refine zr_sat dL_law_2031 (vp_in_nI (n := i + 1) (by omega) (by omega)) ?_
    rw [nI_clamp (n := i + 1) (by omega)]
    refine zr_callVi (rest := []) dL_law_2032 vL_271 hr2 hy (by omega) (by omega) (by omega) rfl rfl (Nat.le_of_ble_eq_true rfl) (by decide) rfl (fun r3 u h3 => ?_)
    obtain ⟨er, F2, hI⟩ := h3
    rw [er]
    have F3 : zFr σ u (fun q => x ≤ q ∧ q < x + 274) := zFr.tr F1 F2 (fun q hq => by unfold zMr at hq; omega)
    have ko2 := zFr.get F2 (by unfold zMr; omega) ko
    obtain ⟨F8, h8, e8⟩ := hI.oy
    refine zr_istore (ls' := [some (.ref ((zQ X 37))), some (.ref x), some (.ref ((x + 261))), some (.ref ((x + 273))), some (.ref ((x + 274))), some (.int (nI i)), some (.int 0), some (.int v), l8]) dL_law_2035 (by decide) rfl ?_
    refine zr_aload_n dL_law_2037 rfl ?_
    refine zr_pVi (rest := []) dL_law_2038 vL_173 (qX10_thrown hX h8) h8 (by omega) (by omega) (by omega) rfl rfl (Nat.le_of_ble_eq_true rfl) (by decide) rfl ?_
    refine zr_eqi (x' := 0) e8 ?_
    refine zr_iload dL_law_2041 rfl ?_
    refine zr_icmp_eq (tgt := 2048) dL_law_2043 (by decide) (fun c_2043 => ?_) (fun c_2043 => absurd (by decide) c_2043)
    refine zr_iload dL_law_2048 rfl ?_
    refine zr_if_ne (tgt := 2072) dL_law_2050 (by decide) (fun c_2050 => absurd (by decide) c_2050) (fun c_2050 => ?_)
    refine zr_aload_n dL_law_2053 rfl ?_
    refine zr_iconst (v := 0) dL_law_2054 (by decide) ?_
    refine zr_laload dL_law_2055 ko2 (vp_in_nI (n := 0) (by omega) (by omega)) ?_
    rw [show (0 : Int32).toNatClampNeg = 0 from by decide]
    refine zr_eql (x' := (if v = 0 then 0 else 1)) (by unfold vp_updL; rw [if_pos rfl]) ?_
    refine zr_iload dL_law_2056 rfl ?_
    refine zr_if_eq (tgt := 2065) dL_law_2058 (by decide) (fun c_2058 => ?_) (fun c_2058 => ?_)
    · refine zr_lconst (v := 0) dL_law_2065 (by decide) ?_
      refine zr_lcmp dL_law_2066 ?_
      refine zr_eqi (x' := 0) (by rw [if_pos c_2058]; exact lcmp_self _) ?_
      refine zr_if_eq (tgt := 2072) dL_law_2067 (by decide) (fun c_2067 => ?_) (fun c_2067 => absurd (by decide) c_2067)
      refine zr_goto (tgt := 2861) dL_law_2072 (by decide) ?_
      exact zr_less (by omega) (by omega) (kk u _ _ _ _ hI F3 ko2)
    · refine zr_lconst (v := 1) dL_law_2061 (by decide) ?_
      refine zr_goto (tgt := 2066) dL_law_2062 (by decide) ?_
      refine zr_lcmp dL_law_2066 ?_
      refine zr_eqi (x' := 0) (by rw [if_neg c_2058]; exact lcmp_self _) ?_
      refine zr_if_eq (tgt := 2072) dL_law_2067 (by decide) (fun c_2067 => ?_) (fun c_2067 => absurd (by decide) c_2067)
      refine zr_goto (tgt := 2861) dL_law_2072 (by decide) ?_
      exact zr_less (by omega) (by omega) (kk u _ _ _ _ hI F3 ko2)
  · skip
    rcases List.mem_cons.mp hk with ek | hk
    · cases ek
      refine zr_callH (rest := []) dL_law_2020 vL_269 (wN1_isAppealed hX hc hx) (by omega) (by omega) (by omega) rfl rfl (Nat.le_of_ble_eq_true rfl) rfl (fun v2 s1 h_ => ?_) (fun E1 s1 h_ => by obtain ⟨r, e, -⟩ := h_; cases e)
      obtain ⟨r, e, e2, hq⟩ := h_
      cases e
      rw [e2]
      have F0 := (hr _ hq).1
      have hy0 := zFr.get F0 (by unfold zXr; omega) hyo
      obtain ⟨d2, d29, hr2⟩ := (hr _ hq).2 s1 zFr.rf
      have hy := hy0
      have F1 : zFr σ s1 (fun q => x ≤ q ∧ q < x + 274) := F0.w (fun q hq => by unfold zXr at hq; omega)
      have ko := zFr.get F0 (by unfold zXr; omega) ho
      refine zr_istore (ls' := [some (.ref ((zQ X 37))), some (.ref x), some (.ref ((x + 261))), some (.ref ((x + 273))), some (.ref ((x + 274))), some (.int (nI i)), some (.int 1), l7, l8]) dL_law_2023 (by decide) rfl ?_
      refine zr_aload_n dL_law_2025 rfl ?_
      refine zr_aload_n dL_law_2026 rfl ?_
      refine zr_iload dL_law_2027 rfl ?_
      refine zr_iconst (v := 1) dL_law_2029 (by decide) ?_
      refine zr_iadd dL_law_2030 ?_
      refine zr_eqi (x' := nI (i + 1)) (nI_add i 1) ?_
      refine zr_sat dL_law_2031 (vp_in_nI (n := i + 1) (by omega) (by omega)) ?_
      rw [nI_clamp (n := i + 1) (by omega)]
      refine zr_callVi (rest := []) dL_law_2032 vL_271 hr2 hy (by omega) (by omega) (by omega) rfl rfl (Nat.le_of_ble_eq_true rfl) (by decide) rfl (fun r3 u h3 => ?_)
      obtain ⟨er, F2, hI⟩ := h3
      have F3 : zFr σ u (fun q => x ≤ q ∧ q < x + 274) := zFr.tr F1 F2 (fun q hq => by unfold zMr at hq; omega)
      have ko2 := zFr.get F2 (by unfold zMr; omega) ko
      obtain ⟨F8, h8, e8⟩ := hI.oy
      refine zr_istore (ls' := [some (.ref ((zQ X 37))), some (.ref x), some (.ref ((x + 261))), some (.ref ((x + 273))), some (.ref ((x + 274))), some (.int (nI i)), some (.int 1), some (.int r3), l8]) dL_law_2035 (by decide) rfl ?_
      refine zr_aload_n dL_law_2037 rfl ?_
      refine zr_pVi (rest := []) dL_law_2038 vL_173 (qX10_thrown hX h8) h8 (by omega) (by omega) (by omega) rfl rfl (Nat.le_of_ble_eq_true rfl) (by decide) rfl ?_
      refine zr_eqi (x' := 1) e8 ?_
      refine zr_iload dL_law_2041 rfl ?_
      refine zr_icmp_eq (tgt := 2048) dL_law_2043 (by decide) (fun c_2043 => ?_) (fun c_2043 => absurd (by decide) c_2043)
      refine zr_iload dL_law_2048 rfl ?_
      refine zr_if_ne (tgt := 2072) dL_law_2050 (by decide) (fun c_2050 => ?_) (fun c_2050 => absurd c_2050 (by decide))
      refine zr_goto (tgt := 2861) dL_law_2072 (by decide) ?_
      exact zr_less (by omega) (by omega) (kk u _ _ _ _ hI F3 ko2)
    · skip
      cases hk

set_option maxHeartbeats 400000 in
set_option maxRecDepth 100000 in
theorem blk_casesOn {X : zX} (hX : X.1.stackTraces = false) {Q : zO → zS → Prop} {σ : zS} {x i bc bs : Nat} {l6 l7 l8 : Option Value} {f : Nat → Int64} (hQ : ∀ i j : Nat, i < 7 → j < 7 → zQ X i = zQ X j → i = j) (hi : i + 4 ≤ zsL X) (hs : zsL X < 2 ^ 31) (hI0 : zIv x (x + 261) 0 σ ∨ ∃ cd, zIv x (x + 261) cd σ) (hN : σ.2 = none) (ho : σ.1 (x + 273) = .inl (3, 1, .inr (.inl f))) (kk : ∀ (s : zS) (cd : Int32) (f2 : Nat → Int64) (m6 m7 : Option Value), zIv x (x + 261) cd s → zFr σ s (fun q => x ≤ q ∧ q < x + 274) → s.1 (x + 273) = .inl (3, 1, .inr (.inl f2)) → zW X mL_law 12 bc bs Q 2861 [some (.ref (zQ X 37)), some (.ref x), some (.ref (x + 261)), some (.ref (x + 273)), some (.ref (x + 274)), some (.int (nI i)), m6, m7, l8] [] s) : zW X mL_law 12 (bc + 1) (bs + 6) Q 2075 [some (.ref (zQ X 37)), some (.ref x), some (.ref (x + 261)), some (.ref (x + 273)), some (.ref (x + 274)), some (.int (nI i)), l6, l7, l8] [] σ := by
  have hs2 : zsL X = X.2.2.2.2.2.1 := rfl
  obtain ⟨cd, hI⟩ : ∃ cd, zIv x (x + 261) cd σ := hI0.elim (fun h => ⟨_, h⟩) id
  obtain ⟨fs, hx⟩ := hI.ox
  obtain ⟨Fo, hyo, -⟩ := hI.oy
  obtain ⟨⟨A, S, m, U, n, T, ll, ln, hs1, kf, ld, dt, dc⟩, hK, hM, hL⟩ := hI
  refine zr_aload_n dL_law_2075 rfl ?_
  refine zr_aload_n dL_law_2076 rfl ?_
  refine zr_iload dL_law_2077 rfl ?_
  refine zr_iconst (v := 1) dL_law_2079 (by decide) ?_
  refine zr_iadd dL_law_2080 ?_
  refine zr_eqi (x' := nI (i + 1)) (nI_add i 1) ?_
  refine zr_sat dL_law_2081 (vp_in_nI (n := i + 1) (by omega) (by omega)) ?_
  rw [nI_clamp (n := i + 1) (by omega)]
  refine zr_aload_n dL_law_2082 rfl ?_
  have hsm := sem_casesOn hX hK hM hL hN hQ (X.2.2.2.2.2.2 (i + 1))
  rcases hsm with ⟨v, d1, mc, ms, Qs, d9, m1, m6, hc, hr⟩ | ⟨E, k, d1, mc, ms, Qs, hk, d9, m1, m6, hc, hr⟩
  · refine zr_callH (rest := []) dL_law_2083 vL_272 (wOK_casesOn hX hc hx (fun s2 hq => zFr.get (hr s2 hq).1 (by unfold zXr; omega) ho)) (by omega) (by omega) (by omega) rfl rfl (Nat.le_of_ble_eq_true rfl) rfl (fun v2 s1 h_ => ?_) (fun E1 s1 h_ => by obtain ⟨r, e, -⟩ := h_; cases e)
    obtain ⟨r, e, e2, s2, hq, et⟩ := h_
    cases e
    rw [e2]
    have F0 := (hr _ hq).1
    have hy0 := zFr.get F0 (by unfold zXr; omega) hyo
    have Ft : zFr s2 s1 (zOu x) := by rw [et]; exact ⟨rfl, fun a ha => zup_ne _ _ (fun z => ha (by unfold zOu; omega))⟩
    obtain ⟨d2, d29, hr2⟩ := (hr _ hq).2 s1 Ft
    have hy := zFr.get Ft (by unfold zOu; omega) hy0
    have F1 : zFr σ s1 (fun q => x ≤ q ∧ q < x + 274) := zFr.tr (F0.w (fun q hq => by unfold zXr at hq; omega)) (P := fun q => x ≤ q ∧ q < x + 274) (show zFr s2 s1 (fun q => x ≤ q ∧ q < x + 274) from by rw [et]; exact ⟨rfl, fun a ha => zup_ne _ _ (fun z => ha (by omega))⟩) (fun q hq => hq)
    have ko : s1.1 (x + 273) = .inl (3, 1, .inr (.inl (vp_updL f 0 v.toInt64))) := by rw [et]; exact zup_at _ _ _
    refine zr_istore (ls' := [some (.ref ((zQ X 37))), some (.ref x), some (.ref ((x + 261))), some (.ref ((x + 273))), some (.ref ((x + 274))), some (.int (nI i)), some (.int 0), l7, l8]) dL_law_2086 (by decide) rfl ?_
    refine zr_aload_n dL_law_2088 rfl ?_
    refine zr_aload_n dL_law_2089 rfl ?_
    refine zr_iload dL_law_2090 rfl ?_
    refine zr_iconst (v := 1) dL_law_2092 (by decide) ?_
    refine zr_iadd dL_law_2093 ?_
    refine zr_eqi (x' := nI (i + 1)) (nI_add i 1) ?_
    refine zr_sat dL_law_2094 (vp_in_nI (n := i + 1) (by omega) (by omega)) ?_
    rw [nI_clamp (n := i + 1) (by omega)]
    refine zr_callVi (rest := []) dL_law_2095 vL_274 hr2 hy (by omega) (by omega) (by omega) rfl rfl (Nat.le_of_ble_eq_true rfl) (by decide) rfl (fun r3 u h3 => ?_)
    obtain ⟨er, F2, hI⟩ := h3
    rw [er]
    have F3 : zFr σ u (fun q => x ≤ q ∧ q < x + 274) := zFr.tr F1 F2 (fun q hq => by unfold zMr at hq; omega)
    have ko2 := zFr.get F2 (by unfold zMr; omega) ko
    obtain ⟨F8, h8, e8⟩ := hI.oy
    refine zr_istore (ls' := [some (.ref ((zQ X 37))), some (.ref x), some (.ref ((x + 261))), some (.ref ((x + 273))), some (.ref ((x + 274))), some (.int (nI i)), some (.int 0), some (.int v), l8]) dL_law_2098 (by decide) rfl ?_
    refine zr_aload_n dL_law_2100 rfl ?_
    refine zr_pVi (rest := []) dL_law_2101 vL_173 (qX10_thrown hX h8) h8 (by omega) (by omega) (by omega) rfl rfl (Nat.le_of_ble_eq_true rfl) (by decide) rfl ?_
    refine zr_eqi (x' := 0) e8 ?_
    refine zr_iload dL_law_2104 rfl ?_
    refine zr_icmp_eq (tgt := 2111) dL_law_2106 (by decide) (fun c_2106 => ?_) (fun c_2106 => absurd (by decide) c_2106)
    refine zr_iload dL_law_2111 rfl ?_
    refine zr_if_ne (tgt := 2128) dL_law_2113 (by decide) (fun c_2113 => absurd (by decide) c_2113) (fun c_2113 => ?_)
    refine zr_aload_n dL_law_2116 rfl ?_
    refine zr_iconst (v := 0) dL_law_2117 (by decide) ?_
    refine zr_laload dL_law_2118 ko2 (vp_in_nI (n := 0) (by omega) (by omega)) ?_
    rw [show (0 : Int32).toNatClampNeg = 0 from by decide]
    refine zr_eql (x' := v.toInt64) (by unfold vp_updL; rw [if_pos rfl]) ?_
    refine zr_iload dL_law_2119 rfl ?_
    refine zr_i2l dL_law_2121 ?_
    refine zr_lcmp dL_law_2122 ?_
    refine zr_eqi (x' := 0) (lcmp_self _) ?_
    refine zr_if_eq (tgt := 2128) dL_law_2123 (by decide) (fun c_2123 => ?_) (fun c_2123 => absurd (by decide) c_2123)
    refine zr_goto (tgt := 2861) dL_law_2128 (by decide) ?_
    exact zr_less (by omega) (by omega) (kk u _ _ _ _ hI F3 ko2)
  · skip
    rcases List.mem_cons.mp hk with ek | hk
    · cases ek
      refine zr_callH (rest := []) dL_law_2083 vL_272 (wN1_casesOn hX hc hx) (by omega) (by omega) (by omega) rfl rfl (Nat.le_of_ble_eq_true rfl) rfl (fun v2 s1 h_ => ?_) (fun E1 s1 h_ => by obtain ⟨r, e, -⟩ := h_; cases e)
      obtain ⟨r, e, e2, hq⟩ := h_
      cases e
      rw [e2]
      have F0 := (hr _ hq).1
      have hy0 := zFr.get F0 (by unfold zXr; omega) hyo
      obtain ⟨d2, d29, hr2⟩ := (hr _ hq).2 s1 zFr.rf
      have hy := hy0
      have F1 : zFr σ s1 (fun q => x ≤ q ∧ q < x + 274) := F0.w (fun q hq => by unfold zXr at hq; omega)
      have ko := zFr.get F0 (by unfold zXr; omega) ho
      refine zr_istore (ls' := [some (.ref ((zQ X 37))), some (.ref x), some (.ref ((x + 261))), some (.ref ((x + 273))), some (.ref ((x + 274))), some (.int (nI i)), some (.int 1), l7, l8]) dL_law_2086 (by decide) rfl ?_
      refine zr_aload_n dL_law_2088 rfl ?_
      refine zr_aload_n dL_law_2089 rfl ?_
      refine zr_iload dL_law_2090 rfl ?_
      refine zr_iconst (v := 1) dL_law_2092 (by decide) ?_
      refine zr_iadd dL_law_2093 ?_
      refine zr_eqi (x' := nI (i + 1)) (nI_add i 1) ?_
      refine zr_sat dL_law_2094 (vp_in_nI (n := i + 1) (by omega) (by omega)) ?_
      rw [nI_clamp (n := i + 1) (by omega)]
      refine zr_callVi (rest := []) dL_law_2095 vL_274 hr2 hy (by omega) (by omega) (by omega) rfl rfl (Nat.le_of_ble_eq_true rfl) (by decide) rfl (fun r3 u h3 => ?_)
      obtain ⟨er, F2, hI⟩ := h3
      have F3 : zFr σ u (fun q => x ≤ q ∧ q < x + 274) := zFr.tr F1 F2 (fun q hq => by unfold zMr at hq; omega)
      have ko2 := zFr.get F2 (by unfold zMr; omega) ko
      obtain ⟨F8, h8, e8⟩ := hI.oy
      refine zr_istore (ls' := [some (.ref ((zQ X 37))), some (.ref x), some (.ref ((x + 261))), some (.ref ((x + 273))), some (.ref ((x + 274))), some (.int (nI i)), some (.int 1), some (.int r3), l8]) dL_law_2098 (by decide) rfl ?_
      refine zr_aload_n dL_law_2100 rfl ?_
      refine zr_pVi (rest := []) dL_law_2101 vL_173 (qX10_thrown hX h8) h8 (by omega) (by omega) (by omega) rfl rfl (Nat.le_of_ble_eq_true rfl) (by decide) rfl ?_
      refine zr_eqi (x' := 1) e8 ?_
      refine zr_iload dL_law_2104 rfl ?_
      refine zr_icmp_eq (tgt := 2111) dL_law_2106 (by decide) (fun c_2106 => ?_) (fun c_2106 => absurd (by decide) c_2106)
      refine zr_iload dL_law_2111 rfl ?_
      refine zr_if_ne (tgt := 2128) dL_law_2113 (by decide) (fun c_2113 => ?_) (fun c_2113 => absurd c_2113 (by decide))
      refine zr_goto (tgt := 2861) dL_law_2128 (by decide) ?_
      exact zr_less (by omega) (by omega) (kk u _ _ _ _ hI F3 ko2)
    · skip
      cases hk

set_option maxHeartbeats 400000 in
set_option maxRecDepth 100000 in
theorem blk_feed {X : zX} (hX : X.1.stackTraces = false) {Q : zO → zS → Prop} {σ : zS} {x i bc bs : Nat} {l6 l7 l8 : Option Value} {f : Nat → Int64} (hQ : ∀ i j : Nat, i < 7 → j < 7 → zQ X i = zQ X j → i = j) (hi : i + 4 ≤ zsL X) (hs : zsL X < 2 ^ 31) (hI0 : zIv x (x + 261) 0 σ ∨ ∃ cd, zIv x (x + 261) cd σ) (hN : σ.2 = none) (ho : σ.1 (x + 273) = .inl (3, 1, .inr (.inl f))) (kk : ∀ (s : zS) (cd : Int32) (f2 : Nat → Int64) (m6 m7 : Option Value), zIv x (x + 261) cd s → zFr σ s (fun q => x ≤ q ∧ q < x + 274) → s.1 (x + 273) = .inl (3, 1, .inr (.inl f2)) → zW X mL_law 12 bc bs Q 2861 [some (.ref (zQ X 37)), some (.ref x), some (.ref (x + 261)), some (.ref (x + 273)), some (.ref (x + 274)), some (.int (nI i)), m6, m7, l8] [] s) : zW X mL_law 12 (bc + 1) (bs + 6) Q 2301 [some (.ref (zQ X 37)), some (.ref x), some (.ref (x + 261)), some (.ref (x + 273)), some (.ref (x + 274)), some (.int (nI i)), l6, l7, l8] [] σ := by
  have hs2 : zsL X = X.2.2.2.2.2.1 := rfl
  obtain ⟨cd, hI⟩ : ∃ cd, zIv x (x + 261) cd σ := hI0.elim (fun h => ⟨_, h⟩) id
  obtain ⟨fs, hx⟩ := hI.ox
  obtain ⟨Fo, hyo, -⟩ := hI.oy
  obtain ⟨⟨A, S, m, U, n, T, ll, ln, hs1, kf, ld, dt, dc⟩, hK, hM, hL⟩ := hI
  refine zr_aload_n dL_law_2301 rfl ?_
  refine zr_aload_n dL_law_2302 rfl ?_
  refine zr_iload dL_law_2303 rfl ?_
  refine zr_iconst (v := 1) dL_law_2305 (by decide) ?_
  refine zr_iadd dL_law_2306 ?_
  refine zr_eqi (x' := nI (i + 1)) (nI_add i 1) ?_
  refine zr_sat dL_law_2307 (vp_in_nI (n := i + 1) (by omega) (by omega)) ?_
  rw [nI_clamp (n := i + 1) (by omega)]
  refine zr_i2c dL_law_2308 ?_
  refine zr_aload_n dL_law_2309 rfl ?_
  have hsm := sem_feed hX hK hM hL hN hQ ((((X.2.2.2.2.2.2 (i + 1))).toUInt32 % 65536).toInt32) (Value.int.inj (pk_nc _))
  rcases hsm with ⟨v, d1, mc, ms, Qs, d9, m1, m6, hc, hr⟩ | ⟨E, k, d1, mc, ms, Qs, hk, d9, m1, m6, hc, hr⟩
  · refine zr_callH (rest := []) dL_law_2310 vL_295 (wOK_feed hX hc hx (fun s2 hq => zFr.get (hr s2 hq).1 (by unfold zXr; omega) ho)) (by omega) (by omega) (by omega) rfl rfl (Nat.le_of_ble_eq_true rfl) rfl (fun v2 s1 h_ => ?_) (fun E1 s1 h_ => by obtain ⟨r, e, -⟩ := h_; cases e)
    obtain ⟨r, e, e2, s2, hq, et⟩ := h_
    cases e
    rw [e2]
    have F0 := (hr _ hq).1
    have hy0 := zFr.get F0 (by unfold zXr; omega) hyo
    have Ft : zFr s2 s1 (zOu x) := by rw [et]; exact ⟨rfl, fun a ha => zup_ne _ _ (fun z => ha (by unfold zOu; omega))⟩
    obtain ⟨d2, d29, hr2⟩ := (hr _ hq).2 s1 Ft
    have hy := zFr.get Ft (by unfold zOu; omega) hy0
    have F1 : zFr σ s1 (fun q => x ≤ q ∧ q < x + 274) := zFr.tr (F0.w (fun q hq => by unfold zXr at hq; omega)) (P := fun q => x ≤ q ∧ q < x + 274) (show zFr s2 s1 (fun q => x ≤ q ∧ q < x + 274) from by rw [et]; exact ⟨rfl, fun a ha => zup_ne _ _ (fun z => ha (by omega))⟩) (fun q hq => hq)
    have ko : s1.1 (x + 273) = .inl (3, 1, .inr (.inl (vp_updL f 0 v.toInt64))) := by rw [et]; exact zup_at _ _ _
    refine zr_istore (ls' := [some (.ref ((zQ X 37))), some (.ref x), some (.ref ((x + 261))), some (.ref ((x + 273))), some (.ref ((x + 274))), some (.int (nI i)), some (.int 0), l7, l8]) dL_law_2313 (by decide) rfl ?_
    refine zr_aload_n dL_law_2315 rfl ?_
    refine zr_aload_n dL_law_2316 rfl ?_
    refine zr_iload dL_law_2317 rfl ?_
    refine zr_iconst (v := 1) dL_law_2319 (by decide) ?_
    refine zr_iadd dL_law_2320 ?_
    refine zr_eqi (x' := nI (i + 1)) (nI_add i 1) ?_
    refine zr_sat dL_law_2321 (vp_in_nI (n := i + 1) (by omega) (by omega)) ?_
    rw [nI_clamp (n := i + 1) (by omega)]
    refine zr_i2c dL_law_2322 ?_
    refine zr_callVi (rest := []) dL_law_2323 vL_298 hr2 hy (by omega) (by omega) (by omega) rfl rfl (Nat.le_of_ble_eq_true rfl) (by decide) rfl (fun r3 u h3 => ?_)
    obtain ⟨er, F2, hI⟩ := h3
    rw [er]
    have F3 : zFr σ u (fun q => x ≤ q ∧ q < x + 274) := zFr.tr F1 F2 (fun q hq => by unfold zMr at hq; omega)
    have ko2 := zFr.get F2 (by unfold zMr; omega) ko
    obtain ⟨F8, h8, e8⟩ := hI.oy
    refine zr_istore (ls' := [some (.ref ((zQ X 37))), some (.ref x), some (.ref ((x + 261))), some (.ref ((x + 273))), some (.ref ((x + 274))), some (.int (nI i)), some (.int 0), some (.int v), l8]) dL_law_2326 (by decide) rfl ?_
    refine zr_aload_n dL_law_2328 rfl ?_
    refine zr_pVi (rest := []) dL_law_2329 vL_173 (qX10_thrown hX h8) h8 (by omega) (by omega) (by omega) rfl rfl (Nat.le_of_ble_eq_true rfl) (by decide) rfl ?_
    refine zr_eqi (x' := 0) e8 ?_
    refine zr_iload dL_law_2332 rfl ?_
    refine zr_icmp_eq (tgt := 2339) dL_law_2334 (by decide) (fun c_2334 => ?_) (fun c_2334 => absurd (by decide) c_2334)
    refine zr_iload dL_law_2339 rfl ?_
    refine zr_if_ne (tgt := 2356) dL_law_2341 (by decide) (fun c_2341 => absurd (by decide) c_2341) (fun c_2341 => ?_)
    refine zr_aload_n dL_law_2344 rfl ?_
    refine zr_iconst (v := 0) dL_law_2345 (by decide) ?_
    refine zr_laload dL_law_2346 ko2 (vp_in_nI (n := 0) (by omega) (by omega)) ?_
    rw [show (0 : Int32).toNatClampNeg = 0 from by decide]
    refine zr_eql (x' := v.toInt64) (by unfold vp_updL; rw [if_pos rfl]) ?_
    refine zr_iload dL_law_2347 rfl ?_
    refine zr_i2l dL_law_2349 ?_
    refine zr_lcmp dL_law_2350 ?_
    refine zr_eqi (x' := 0) (lcmp_self _) ?_
    refine zr_if_eq (tgt := 2356) dL_law_2351 (by decide) (fun c_2351 => ?_) (fun c_2351 => absurd (by decide) c_2351)
    refine zr_goto (tgt := 2861) dL_law_2356 (by decide) ?_
    exact zr_less (by omega) (by omega) (kk u _ _ _ _ hI F3 ko2)
  · skip
    rcases List.mem_cons.mp hk with ek | hk
    · cases ek
      refine zr_callH (rest := []) dL_law_2310 vL_295 (wN1_feed hX hc hx) (by omega) (by omega) (by omega) rfl rfl (Nat.le_of_ble_eq_true rfl) rfl (fun v2 s1 h_ => ?_) (fun E1 s1 h_ => by obtain ⟨r, e, -⟩ := h_; cases e)
      obtain ⟨r, e, e2, hq⟩ := h_
      cases e
      rw [e2]
      have F0 := (hr _ hq).1
      have hy0 := zFr.get F0 (by unfold zXr; omega) hyo
      obtain ⟨d2, d29, hr2⟩ := (hr _ hq).2 s1 zFr.rf
      have hy := hy0
      have F1 : zFr σ s1 (fun q => x ≤ q ∧ q < x + 274) := F0.w (fun q hq => by unfold zXr at hq; omega)
      have ko := zFr.get F0 (by unfold zXr; omega) ho
      refine zr_istore (ls' := [some (.ref ((zQ X 37))), some (.ref x), some (.ref ((x + 261))), some (.ref ((x + 273))), some (.ref ((x + 274))), some (.int (nI i)), some (.int 1), l7, l8]) dL_law_2313 (by decide) rfl ?_
      refine zr_aload_n dL_law_2315 rfl ?_
      refine zr_aload_n dL_law_2316 rfl ?_
      refine zr_iload dL_law_2317 rfl ?_
      refine zr_iconst (v := 1) dL_law_2319 (by decide) ?_
      refine zr_iadd dL_law_2320 ?_
      refine zr_eqi (x' := nI (i + 1)) (nI_add i 1) ?_
      refine zr_sat dL_law_2321 (vp_in_nI (n := i + 1) (by omega) (by omega)) ?_
      rw [nI_clamp (n := i + 1) (by omega)]
      refine zr_i2c dL_law_2322 ?_
      refine zr_callVi (rest := []) dL_law_2323 vL_298 hr2 hy (by omega) (by omega) (by omega) rfl rfl (Nat.le_of_ble_eq_true rfl) (by decide) rfl (fun r3 u h3 => ?_)
      obtain ⟨er, F2, hI⟩ := h3
      have F3 : zFr σ u (fun q => x ≤ q ∧ q < x + 274) := zFr.tr F1 F2 (fun q hq => by unfold zMr at hq; omega)
      have ko2 := zFr.get F2 (by unfold zMr; omega) ko
      obtain ⟨F8, h8, e8⟩ := hI.oy
      refine zr_istore (ls' := [some (.ref ((zQ X 37))), some (.ref x), some (.ref ((x + 261))), some (.ref ((x + 273))), some (.ref ((x + 274))), some (.int (nI i)), some (.int 1), some (.int r3), l8]) dL_law_2326 (by decide) rfl ?_
      refine zr_aload_n dL_law_2328 rfl ?_
      refine zr_pVi (rest := []) dL_law_2329 vL_173 (qX10_thrown hX h8) h8 (by omega) (by omega) (by omega) rfl rfl (Nat.le_of_ble_eq_true rfl) (by decide) rfl ?_
      refine zr_eqi (x' := 1) e8 ?_
      refine zr_iload dL_law_2332 rfl ?_
      refine zr_icmp_eq (tgt := 2339) dL_law_2334 (by decide) (fun c_2334 => ?_) (fun c_2334 => absurd (by decide) c_2334)
      refine zr_iload dL_law_2339 rfl ?_
      refine zr_if_ne (tgt := 2356) dL_law_2341 (by decide) (fun c_2341 => ?_) (fun c_2341 => absurd c_2341 (by decide))
      refine zr_goto (tgt := 2861) dL_law_2356 (by decide) ?_
      exact zr_less (by omega) (by omega) (kk u _ _ _ _ hI F3 ko2)
    · skip
      cases hk

set_option maxHeartbeats 400000 in
set_option maxRecDepth 100000 in
theorem blk_execute {X : zX} (hX : X.1.stackTraces = false) {Q : zO → zS → Prop} {σ : zS} {x i bc bs : Nat} {l6 l7 l8 : Option Value} {f : Nat → Int64} (hQ : ∀ i j : Nat, i < 7 → j < 7 → zQ X i = zQ X j → i = j) (hi : i + 4 ≤ zsL X) (hs : zsL X < 2 ^ 31) (hI0 : zIv x (x + 261) 0 σ ∨ ∃ cd, zIv x (x + 261) cd σ) (hN : σ.2 = none) (ho : σ.1 (x + 273) = .inl (3, 1, .inr (.inl f))) (kk : ∀ (s : zS) (cd : Int32) (f2 : Nat → Int64) (m6 m7 : Option Value), zIv x (x + 261) cd s → zFr σ s (fun q => x ≤ q ∧ q < x + 274) → s.1 (x + 273) = .inl (3, 1, .inr (.inl f2)) → zW X mL_law 12 bc bs Q 2861 [some (.ref (zQ X 37)), some (.ref x), some (.ref (x + 261)), some (.ref (x + 273)), some (.ref (x + 274)), some (.int (nI i)), m6, m7, l8] [] s) : zW X mL_law 12 (bc + 1) (bs + 6) Q 2359 [some (.ref (zQ X 37)), some (.ref x), some (.ref (x + 261)), some (.ref (x + 273)), some (.ref (x + 274)), some (.int (nI i)), l6, l7, l8] [] σ := by
  have hs2 : zsL X = X.2.2.2.2.2.1 := rfl
  obtain ⟨cd, hI⟩ : ∃ cd, zIv x (x + 261) cd σ := hI0.elim (fun h => ⟨_, h⟩) id
  obtain ⟨fs, hx⟩ := hI.ox
  obtain ⟨Fo, hyo, -⟩ := hI.oy
  obtain ⟨⟨A, S, m, U, n, T, ll, ln, hs1, kf, ld, dt, dc⟩, hK, hM, hL⟩ := hI
  refine zr_aload_n dL_law_2359 rfl ?_
  refine zr_aload_n dL_law_2360 rfl ?_
  have hsm := sem_execute hX hK hM hL hN hQ
  rcases hsm with ⟨v, d1, mc, ms, Qs, d9, m1, m6, hc, hr⟩ | ⟨E, k, d1, mc, ms, Qs, hk, d9, m1, m6, hc, hr⟩
  · refine zr_callH (rest := []) dL_law_2361 vL_299 (wOK_execute hX hc hx (fun s2 hq => zFr.get (hr s2 hq).1 (by unfold zXr; omega) ho)) (by omega) (by omega) (by omega) rfl rfl (Nat.le_of_ble_eq_true rfl) rfl (fun v2 s1 h_ => ?_) (fun E1 s1 h_ => by obtain ⟨r, e, -⟩ := h_; cases e)
    obtain ⟨r, e, e2, s2, hq, et⟩ := h_
    cases e
    rw [e2]
    have F0 := (hr _ hq).1
    have hy0 := zFr.get F0 (by unfold zXr; omega) hyo
    have Ft : zFr s2 s1 (zOu x) := by rw [et]; exact ⟨rfl, fun a ha => zup_ne _ _ (fun z => ha (by unfold zOu; omega))⟩
    obtain ⟨d2, d29, hr2⟩ := (hr _ hq).2 s1 Ft
    have hy := zFr.get Ft (by unfold zOu; omega) hy0
    have F1 : zFr σ s1 (fun q => x ≤ q ∧ q < x + 274) := zFr.tr (F0.w (fun q hq => by unfold zXr at hq; omega)) (P := fun q => x ≤ q ∧ q < x + 274) (show zFr s2 s1 (fun q => x ≤ q ∧ q < x + 274) from by rw [et]; exact ⟨rfl, fun a ha => zup_ne _ _ (fun z => ha (by omega))⟩) (fun q hq => hq)
    have ko : s1.1 (x + 273) = .inl (3, 1, .inr (.inl (vp_updL f 0 v.toInt64))) := by rw [et]; exact zup_at _ _ _
    refine zr_istore (ls' := [some (.ref ((zQ X 37))), some (.ref x), some (.ref ((x + 261))), some (.ref ((x + 273))), some (.ref ((x + 274))), some (.int (nI i)), some (.int 0), l7, l8]) dL_law_2364 (by decide) rfl ?_
    refine zr_aload_n dL_law_2366 rfl ?_
    refine zr_callVi (rest := []) dL_law_2367 vL_301 hr2 hy (by omega) (by omega) (by omega) rfl rfl (Nat.le_of_ble_eq_true rfl) (by decide) rfl (fun r3 u h3 => ?_)
    obtain ⟨er, F2, hI⟩ := h3
    rw [er]
    have F3 : zFr σ u (fun q => x ≤ q ∧ q < x + 274) := zFr.tr F1 F2 (fun q hq => by unfold zMr at hq; omega)
    have ko2 := zFr.get F2 (by unfold zMr; omega) ko
    obtain ⟨F8, h8, e8⟩ := hI.oy
    refine zr_istore (ls' := [some (.ref ((zQ X 37))), some (.ref x), some (.ref ((x + 261))), some (.ref ((x + 273))), some (.ref ((x + 274))), some (.int (nI i)), some (.int 0), some (.int v), l8]) dL_law_2370 (by decide) rfl ?_
    refine zr_aload_n dL_law_2372 rfl ?_
    refine zr_pVi (rest := []) dL_law_2373 vL_173 (qX10_thrown hX h8) h8 (by omega) (by omega) (by omega) rfl rfl (Nat.le_of_ble_eq_true rfl) (by decide) rfl ?_
    refine zr_eqi (x' := 0) e8 ?_
    refine zr_iload dL_law_2376 rfl ?_
    refine zr_icmp_eq (tgt := 2383) dL_law_2378 (by decide) (fun c_2378 => ?_) (fun c_2378 => absurd (by decide) c_2378)
    refine zr_iload dL_law_2383 rfl ?_
    refine zr_if_ne (tgt := 2400) dL_law_2385 (by decide) (fun c_2385 => absurd (by decide) c_2385) (fun c_2385 => ?_)
    refine zr_aload_n dL_law_2388 rfl ?_
    refine zr_iconst (v := 0) dL_law_2389 (by decide) ?_
    refine zr_laload dL_law_2390 ko2 (vp_in_nI (n := 0) (by omega) (by omega)) ?_
    rw [show (0 : Int32).toNatClampNeg = 0 from by decide]
    refine zr_eql (x' := v.toInt64) (by unfold vp_updL; rw [if_pos rfl]) ?_
    refine zr_iload dL_law_2391 rfl ?_
    refine zr_i2l dL_law_2393 ?_
    refine zr_lcmp dL_law_2394 ?_
    refine zr_eqi (x' := 0) (lcmp_self _) ?_
    refine zr_if_eq (tgt := 2400) dL_law_2395 (by decide) (fun c_2395 => ?_) (fun c_2395 => absurd (by decide) c_2395)
    refine zr_goto (tgt := 2861) dL_law_2400 (by decide) ?_
    exact zr_less (by omega) (by omega) (kk u _ _ _ _ hI F3 ko2)
  · skip
    rcases List.mem_cons.mp hk with ek | hk
    · cases ek
      refine zr_callH (rest := []) dL_law_2361 vL_299 (wN1_execute hX hc hx) (by omega) (by omega) (by omega) rfl rfl (Nat.le_of_ble_eq_true rfl) rfl (fun v2 s1 h_ => ?_) (fun E1 s1 h_ => by obtain ⟨r, e, -⟩ := h_; cases e)
      obtain ⟨r, e, e2, hq⟩ := h_
      cases e
      rw [e2]
      have F0 := (hr _ hq).1
      have hy0 := zFr.get F0 (by unfold zXr; omega) hyo
      obtain ⟨d2, d29, hr2⟩ := (hr _ hq).2 s1 zFr.rf
      have hy := hy0
      have F1 : zFr σ s1 (fun q => x ≤ q ∧ q < x + 274) := F0.w (fun q hq => by unfold zXr at hq; omega)
      have ko := zFr.get F0 (by unfold zXr; omega) ho
      refine zr_istore (ls' := [some (.ref ((zQ X 37))), some (.ref x), some (.ref ((x + 261))), some (.ref ((x + 273))), some (.ref ((x + 274))), some (.int (nI i)), some (.int 1), l7, l8]) dL_law_2364 (by decide) rfl ?_
      refine zr_aload_n dL_law_2366 rfl ?_
      refine zr_callVi (rest := []) dL_law_2367 vL_301 hr2 hy (by omega) (by omega) (by omega) rfl rfl (Nat.le_of_ble_eq_true rfl) (by decide) rfl (fun r3 u h3 => ?_)
      obtain ⟨er, F2, hI⟩ := h3
      have F3 : zFr σ u (fun q => x ≤ q ∧ q < x + 274) := zFr.tr F1 F2 (fun q hq => by unfold zMr at hq; omega)
      have ko2 := zFr.get F2 (by unfold zMr; omega) ko
      obtain ⟨F8, h8, e8⟩ := hI.oy
      refine zr_istore (ls' := [some (.ref ((zQ X 37))), some (.ref x), some (.ref ((x + 261))), some (.ref ((x + 273))), some (.ref ((x + 274))), some (.int (nI i)), some (.int 1), some (.int r3), l8]) dL_law_2370 (by decide) rfl ?_
      refine zr_aload_n dL_law_2372 rfl ?_
      refine zr_pVi (rest := []) dL_law_2373 vL_173 (qX10_thrown hX h8) h8 (by omega) (by omega) (by omega) rfl rfl (Nat.le_of_ble_eq_true rfl) (by decide) rfl ?_
      refine zr_eqi (x' := 1) e8 ?_
      refine zr_iload dL_law_2376 rfl ?_
      refine zr_icmp_eq (tgt := 2383) dL_law_2378 (by decide) (fun c_2378 => ?_) (fun c_2378 => absurd (by decide) c_2378)
      refine zr_iload dL_law_2383 rfl ?_
      refine zr_if_ne (tgt := 2400) dL_law_2385 (by decide) (fun c_2385 => ?_) (fun c_2385 => absurd c_2385 (by decide))
      refine zr_goto (tgt := 2861) dL_law_2400 (by decide) ?_
      exact zr_less (by omega) (by omega) (kk u _ _ _ _ hI F3 ko2)
    · skip
      rcases List.mem_cons.mp hk with ek | hk
      · cases ek
        refine zr_callH (rest := []) dL_law_2361 vL_299 (wN2_execute hX hc hx) (by omega) (by omega) (by omega) rfl rfl (Nat.le_of_ble_eq_true rfl) rfl (fun v2 s1 h_ => ?_) (fun E1 s1 h_ => by obtain ⟨r, e, -⟩ := h_; cases e)
        obtain ⟨r, e, e2, hq⟩ := h_
        cases e
        rw [e2]
        have F0 := (hr _ hq).1
        have hy0 := zFr.get F0 (by unfold zXr; omega) hyo
        obtain ⟨d2, d29, hr2⟩ := (hr _ hq).2 s1 zFr.rf
        have hy := hy0
        have F1 : zFr σ s1 (fun q => x ≤ q ∧ q < x + 274) := F0.w (fun q hq => by unfold zXr at hq; omega)
        have ko := zFr.get F0 (by unfold zXr; omega) ho
        refine zr_istore (ls' := [some (.ref ((zQ X 37))), some (.ref x), some (.ref ((x + 261))), some (.ref ((x + 273))), some (.ref ((x + 274))), some (.int (nI i)), some (.int 2), l7, l8]) dL_law_2364 (by decide) rfl ?_
        refine zr_aload_n dL_law_2366 rfl ?_
        refine zr_callVi (rest := []) dL_law_2367 vL_301 hr2 hy (by omega) (by omega) (by omega) rfl rfl (Nat.le_of_ble_eq_true rfl) (by decide) rfl (fun r3 u h3 => ?_)
        obtain ⟨er, F2, hI⟩ := h3
        have F3 : zFr σ u (fun q => x ≤ q ∧ q < x + 274) := zFr.tr F1 F2 (fun q hq => by unfold zMr at hq; omega)
        have ko2 := zFr.get F2 (by unfold zMr; omega) ko
        obtain ⟨F8, h8, e8⟩ := hI.oy
        refine zr_istore (ls' := [some (.ref ((zQ X 37))), some (.ref x), some (.ref ((x + 261))), some (.ref ((x + 273))), some (.ref ((x + 274))), some (.int (nI i)), some (.int 2), some (.int r3), l8]) dL_law_2370 (by decide) rfl ?_
        refine zr_aload_n dL_law_2372 rfl ?_
        refine zr_pVi (rest := []) dL_law_2373 vL_173 (qX10_thrown hX h8) h8 (by omega) (by omega) (by omega) rfl rfl (Nat.le_of_ble_eq_true rfl) (by decide) rfl ?_
        refine zr_eqi (x' := 2) e8 ?_
        refine zr_iload dL_law_2376 rfl ?_
        refine zr_icmp_eq (tgt := 2383) dL_law_2378 (by decide) (fun c_2378 => ?_) (fun c_2378 => absurd (by decide) c_2378)
        refine zr_iload dL_law_2383 rfl ?_
        refine zr_if_ne (tgt := 2400) dL_law_2385 (by decide) (fun c_2385 => ?_) (fun c_2385 => absurd c_2385 (by decide))
        refine zr_goto (tgt := 2861) dL_law_2400 (by decide) ?_
        exact zr_less (by omega) (by omega) (kk u _ _ _ _ hI F3 ko2)
      · skip
        cases hk

set_option maxHeartbeats 400000 in
set_option maxRecDepth 100000 in
theorem blk_faultPosition {X : zX} (hX : X.1.stackTraces = false) {Q : zO → zS → Prop} {σ : zS} {x i bc bs : Nat} {l6 l7 l8 : Option Value} {f : Nat → Int64} (hQ : ∀ i j : Nat, i < 7 → j < 7 → zQ X i = zQ X j → i = j) (hi : i + 4 ≤ zsL X) (hs : zsL X < 2 ^ 31) (hI0 : zIv x (x + 261) 0 σ ∨ ∃ cd, zIv x (x + 261) cd σ) (hN : σ.2 = none) (ho : σ.1 (x + 273) = .inl (3, 1, .inr (.inl f))) (kk : ∀ (s : zS) (cd : Int32) (f2 : Nat → Int64) (m6 m7 : Option Value), zIv x (x + 261) cd s → zFr σ s (fun q => x ≤ q ∧ q < x + 274) → s.1 (x + 273) = .inl (3, 1, .inr (.inl f2)) → zW X mL_law 12 bc bs Q 2861 [some (.ref (zQ X 37)), some (.ref x), some (.ref (x + 261)), some (.ref (x + 273)), some (.ref (x + 274)), some (.int (nI i)), m6, m7, l8] [] s) : zW X mL_law 12 (bc + 1) (bs + 6) Q 2403 [some (.ref (zQ X 37)), some (.ref x), some (.ref (x + 261)), some (.ref (x + 273)), some (.ref (x + 274)), some (.int (nI i)), l6, l7, l8] [] σ := by
  have hs2 : zsL X = X.2.2.2.2.2.1 := rfl
  obtain ⟨cd, hI⟩ : ∃ cd, zIv x (x + 261) cd σ := hI0.elim (fun h => ⟨_, h⟩) id
  obtain ⟨fs, hx⟩ := hI.ox
  obtain ⟨Fo, hyo, -⟩ := hI.oy
  obtain ⟨⟨A, S, m, U, n, T, ll, ln, hs1, kf, ld, dt, dc⟩, hK, hM, hL⟩ := hI
  refine zr_aload_n dL_law_2403 rfl ?_
  refine zr_aload_n dL_law_2404 rfl ?_
  have hsm := sem_faultPosition hX hK hM hL hN hQ
  rcases hsm with ⟨v, d1, mc, ms, Qs, d9, m1, m6, hc, hr⟩ | ⟨E, k, d1, mc, ms, Qs, hk, d9, m1, m6, hc, hr⟩
  · refine zr_callH (rest := []) dL_law_2405 vL_302 (wOK_faultPosition hX hc hx (fun s2 hq => zFr.get (hr s2 hq).1 (by unfold zXr; omega) ho)) (by omega) (by omega) (by omega) rfl rfl (Nat.le_of_ble_eq_true rfl) rfl (fun v2 s1 h_ => ?_) (fun E1 s1 h_ => by obtain ⟨r, e, -⟩ := h_; cases e)
    obtain ⟨r, e, e2, s2, hq, et⟩ := h_
    cases e
    rw [e2]
    have F0 := (hr _ hq).1
    have hy0 := zFr.get F0 (by unfold zXr; omega) hyo
    have Ft : zFr s2 s1 (zOu x) := by rw [et]; exact ⟨rfl, fun a ha => zup_ne _ _ (fun z => ha (by unfold zOu; omega))⟩
    obtain ⟨d2, d29, hr2⟩ := (hr _ hq).2 s1 Ft
    have hy := zFr.get Ft (by unfold zOu; omega) hy0
    have F1 : zFr σ s1 (fun q => x ≤ q ∧ q < x + 274) := zFr.tr (F0.w (fun q hq => by unfold zXr at hq; omega)) (P := fun q => x ≤ q ∧ q < x + 274) (show zFr s2 s1 (fun q => x ≤ q ∧ q < x + 274) from by rw [et]; exact ⟨rfl, fun a ha => zup_ne _ _ (fun z => ha (by omega))⟩) (fun q hq => hq)
    have ko : s1.1 (x + 273) = .inl (3, 1, .inr (.inl (vp_updL f 0 v.toInt64))) := by rw [et]; exact zup_at _ _ _
    refine zr_istore (ls' := [some (.ref ((zQ X 37))), some (.ref x), some (.ref ((x + 261))), some (.ref ((x + 273))), some (.ref ((x + 274))), some (.int (nI i)), some (.int 0), l7, l8]) dL_law_2408 (by decide) rfl ?_
    refine zr_aload_n dL_law_2410 rfl ?_
    refine zr_callVi (rest := []) dL_law_2411 vL_304 hr2 hy (by omega) (by omega) (by omega) rfl rfl (Nat.le_of_ble_eq_true rfl) (by decide) rfl (fun r3 u h3 => ?_)
    obtain ⟨er, F2, hI⟩ := h3
    rw [er]
    have F3 : zFr σ u (fun q => x ≤ q ∧ q < x + 274) := zFr.tr F1 F2 (fun q hq => by unfold zMr at hq; omega)
    have ko2 := zFr.get F2 (by unfold zMr; omega) ko
    obtain ⟨F8, h8, e8⟩ := hI.oy
    refine zr_istore (ls' := [some (.ref ((zQ X 37))), some (.ref x), some (.ref ((x + 261))), some (.ref ((x + 273))), some (.ref ((x + 274))), some (.int (nI i)), some (.int 0), some (.int v), l8]) dL_law_2414 (by decide) rfl ?_
    refine zr_aload_n dL_law_2416 rfl ?_
    refine zr_pVi (rest := []) dL_law_2417 vL_173 (qX10_thrown hX h8) h8 (by omega) (by omega) (by omega) rfl rfl (Nat.le_of_ble_eq_true rfl) (by decide) rfl ?_
    refine zr_eqi (x' := 0) e8 ?_
    refine zr_iload dL_law_2420 rfl ?_
    refine zr_icmp_eq (tgt := 2427) dL_law_2422 (by decide) (fun c_2422 => ?_) (fun c_2422 => absurd (by decide) c_2422)
    refine zr_iload dL_law_2427 rfl ?_
    refine zr_if_ne (tgt := 2444) dL_law_2429 (by decide) (fun c_2429 => absurd (by decide) c_2429) (fun c_2429 => ?_)
    refine zr_aload_n dL_law_2432 rfl ?_
    refine zr_iconst (v := 0) dL_law_2433 (by decide) ?_
    refine zr_laload dL_law_2434 ko2 (vp_in_nI (n := 0) (by omega) (by omega)) ?_
    rw [show (0 : Int32).toNatClampNeg = 0 from by decide]
    refine zr_eql (x' := v.toInt64) (by unfold vp_updL; rw [if_pos rfl]) ?_
    refine zr_iload dL_law_2435 rfl ?_
    refine zr_i2l dL_law_2437 ?_
    refine zr_lcmp dL_law_2438 ?_
    refine zr_eqi (x' := 0) (lcmp_self _) ?_
    refine zr_if_eq (tgt := 2444) dL_law_2439 (by decide) (fun c_2439 => ?_) (fun c_2439 => absurd (by decide) c_2439)
    refine zr_goto (tgt := 2861) dL_law_2444 (by decide) ?_
    exact zr_less (by omega) (by omega) (kk u _ _ _ _ hI F3 ko2)
  · skip
    rcases List.mem_cons.mp hk with ek | hk
    · cases ek
      refine zr_callH (rest := []) dL_law_2405 vL_302 (wN1_faultPosition hX hc hx) (by omega) (by omega) (by omega) rfl rfl (Nat.le_of_ble_eq_true rfl) rfl (fun v2 s1 h_ => ?_) (fun E1 s1 h_ => by obtain ⟨r, e, -⟩ := h_; cases e)
      obtain ⟨r, e, e2, hq⟩ := h_
      cases e
      rw [e2]
      have F0 := (hr _ hq).1
      have hy0 := zFr.get F0 (by unfold zXr; omega) hyo
      obtain ⟨d2, d29, hr2⟩ := (hr _ hq).2 s1 zFr.rf
      have hy := hy0
      have F1 : zFr σ s1 (fun q => x ≤ q ∧ q < x + 274) := F0.w (fun q hq => by unfold zXr at hq; omega)
      have ko := zFr.get F0 (by unfold zXr; omega) ho
      refine zr_istore (ls' := [some (.ref ((zQ X 37))), some (.ref x), some (.ref ((x + 261))), some (.ref ((x + 273))), some (.ref ((x + 274))), some (.int (nI i)), some (.int 1), l7, l8]) dL_law_2408 (by decide) rfl ?_
      refine zr_aload_n dL_law_2410 rfl ?_
      refine zr_callVi (rest := []) dL_law_2411 vL_304 hr2 hy (by omega) (by omega) (by omega) rfl rfl (Nat.le_of_ble_eq_true rfl) (by decide) rfl (fun r3 u h3 => ?_)
      obtain ⟨er, F2, hI⟩ := h3
      have F3 : zFr σ u (fun q => x ≤ q ∧ q < x + 274) := zFr.tr F1 F2 (fun q hq => by unfold zMr at hq; omega)
      have ko2 := zFr.get F2 (by unfold zMr; omega) ko
      obtain ⟨F8, h8, e8⟩ := hI.oy
      refine zr_istore (ls' := [some (.ref ((zQ X 37))), some (.ref x), some (.ref ((x + 261))), some (.ref ((x + 273))), some (.ref ((x + 274))), some (.int (nI i)), some (.int 1), some (.int r3), l8]) dL_law_2414 (by decide) rfl ?_
      refine zr_aload_n dL_law_2416 rfl ?_
      refine zr_pVi (rest := []) dL_law_2417 vL_173 (qX10_thrown hX h8) h8 (by omega) (by omega) (by omega) rfl rfl (Nat.le_of_ble_eq_true rfl) (by decide) rfl ?_
      refine zr_eqi (x' := 1) e8 ?_
      refine zr_iload dL_law_2420 rfl ?_
      refine zr_icmp_eq (tgt := 2427) dL_law_2422 (by decide) (fun c_2422 => ?_) (fun c_2422 => absurd (by decide) c_2422)
      refine zr_iload dL_law_2427 rfl ?_
      refine zr_if_ne (tgt := 2444) dL_law_2429 (by decide) (fun c_2429 => ?_) (fun c_2429 => absurd c_2429 (by decide))
      refine zr_goto (tgt := 2861) dL_law_2444 (by decide) ?_
      exact zr_less (by omega) (by omega) (kk u _ _ _ _ hI F3 ko2)
    · skip
      cases hk

set_option maxHeartbeats 400000 in
set_option maxRecDepth 100000 in
theorem blk_writeCase {X : zX} (hX : X.1.stackTraces = false) {Q : zO → zS → Prop} {σ : zS} {x i bc bs : Nat} {l6 l7 l8 : Option Value} {f : Nat → Int64} (hQ : ∀ i j : Nat, i < 7 → j < 7 → zQ X i = zQ X j → i = j) (hi : i + 4 ≤ zsL X) (hs : zsL X < 2 ^ 31) (hI0 : zIv x (x + 261) 0 σ ∨ ∃ cd, zIv x (x + 261) cd σ) (hN : σ.2 = none) (ho : σ.1 (x + 273) = .inl (3, 1, .inr (.inl f))) (kk : ∀ (s : zS) (cd : Int32) (f2 : Nat → Int64) (m6 m7 : Option Value), zIv x (x + 261) cd s → zFr σ s (fun q => x ≤ q ∧ q < x + 274) → s.1 (x + 273) = .inl (3, 1, .inr (.inl f2)) → zW X mL_law 12 bc bs Q 2861 [some (.ref (zQ X 37)), some (.ref x), some (.ref (x + 261)), some (.ref (x + 273)), some (.ref (x + 274)), some (.int (nI i)), m6, m7, l8] [] s) : zW X mL_law 12 (bc + 1) (bs + 6) Q 2447 [some (.ref (zQ X 37)), some (.ref x), some (.ref (x + 261)), some (.ref (x + 273)), some (.ref (x + 274)), some (.int (nI i)), l6, l7, l8] [] σ := by
  have hs2 : zsL X = X.2.2.2.2.2.1 := rfl
  obtain ⟨cd, hI⟩ : ∃ cd, zIv x (x + 261) cd σ := hI0.elim (fun h => ⟨_, h⟩) id
  obtain ⟨fs, hx⟩ := hI.ox
  obtain ⟨Fo, hyo, -⟩ := hI.oy
  obtain ⟨⟨A, S, m, U, n, T, ll, ln, hs1, kf, ld, dt, dc⟩, hK, hM, hL⟩ := hI
  refine zr_aload_n dL_law_2447 rfl ?_
  refine zr_aload_n dL_law_2448 rfl ?_
  refine zr_iload dL_law_2449 rfl ?_
  refine zr_iconst (v := 1) dL_law_2451 (by decide) ?_
  refine zr_iadd dL_law_2452 ?_
  refine zr_eqi (x' := nI (i + 1)) (nI_add i 1) ?_
  refine zr_sat dL_law_2453 (vp_in_nI (n := i + 1) (by omega) (by omega)) ?_
  rw [nI_clamp (n := i + 1) (by omega)]
  refine zr_aload_n dL_law_2454 rfl ?_
  have hsm := sem_writeCase hX hK hM hL hN hQ (X.2.2.2.2.2.2 (i + 1))
  rcases hsm with ⟨v, d1, mc, ms, Qs, d9, m1, m6, hc, hr⟩ | ⟨E, k, d1, mc, ms, Qs, hk, d9, m1, m6, hc, hr⟩
  · refine zr_callH (rest := []) dL_law_2455 vL_305 (wOK_writeCase hX hc hx (fun s2 hq => zFr.get (hr s2 hq).1 (by unfold zXr; omega) ho)) (by omega) (by omega) (by omega) rfl rfl (Nat.le_of_ble_eq_true rfl) rfl (fun v2 s1 h_ => ?_) (fun E1 s1 h_ => by obtain ⟨r, e, -⟩ := h_; cases e)
    obtain ⟨r, e, e2, s2, hq, et⟩ := h_
    cases e
    rw [e2]
    have F0 := (hr _ hq).1
    have hy0 := zFr.get F0 (by unfold zXr; omega) hyo
    have Ft : zFr s2 s1 (zOu x) := by rw [et]; exact ⟨rfl, fun a ha => zup_ne _ _ (fun z => ha (by unfold zOu; omega))⟩
    obtain ⟨d2, d29, hr2⟩ := (hr _ hq).2 s1 Ft
    have hy := zFr.get Ft (by unfold zOu; omega) hy0
    have F1 : zFr σ s1 (fun q => x ≤ q ∧ q < x + 274) := zFr.tr (F0.w (fun q hq => by unfold zXr at hq; omega)) (P := fun q => x ≤ q ∧ q < x + 274) (show zFr s2 s1 (fun q => x ≤ q ∧ q < x + 274) from by rw [et]; exact ⟨rfl, fun a ha => zup_ne _ _ (fun z => ha (by omega))⟩) (fun q hq => hq)
    have ko : s1.1 (x + 273) = .inl (3, 1, .inr (.inl (vp_updL f 0 v.toInt64))) := by rw [et]; exact zup_at _ _ _
    refine zr_istore (ls' := [some (.ref ((zQ X 37))), some (.ref x), some (.ref ((x + 261))), some (.ref ((x + 273))), some (.ref ((x + 274))), some (.int (nI i)), some (.int 0), l7, l8]) dL_law_2458 (by decide) rfl ?_
    refine zr_aload_n dL_law_2460 rfl ?_
    refine zr_aload_n dL_law_2461 rfl ?_
    refine zr_iload dL_law_2462 rfl ?_
    refine zr_iconst (v := 1) dL_law_2464 (by decide) ?_
    refine zr_iadd dL_law_2465 ?_
    refine zr_eqi (x' := nI (i + 1)) (nI_add i 1) ?_
    refine zr_sat dL_law_2466 (vp_in_nI (n := i + 1) (by omega) (by omega)) ?_
    rw [nI_clamp (n := i + 1) (by omega)]
    refine zr_callVi (rest := []) dL_law_2467 vL_307 hr2 hy (by omega) (by omega) (by omega) rfl rfl (Nat.le_of_ble_eq_true rfl) (by decide) rfl (fun r3 u h3 => ?_)
    obtain ⟨er, F2, hI⟩ := h3
    rw [er]
    have F3 : zFr σ u (fun q => x ≤ q ∧ q < x + 274) := zFr.tr F1 F2 (fun q hq => by unfold zMr at hq; omega)
    have ko2 := zFr.get F2 (by unfold zMr; omega) ko
    obtain ⟨F8, h8, e8⟩ := hI.oy
    refine zr_istore (ls' := [some (.ref ((zQ X 37))), some (.ref x), some (.ref ((x + 261))), some (.ref ((x + 273))), some (.ref ((x + 274))), some (.int (nI i)), some (.int 0), some (.int v), l8]) dL_law_2470 (by decide) rfl ?_
    refine zr_aload_n dL_law_2472 rfl ?_
    refine zr_pVi (rest := []) dL_law_2473 vL_173 (qX10_thrown hX h8) h8 (by omega) (by omega) (by omega) rfl rfl (Nat.le_of_ble_eq_true rfl) (by decide) rfl ?_
    refine zr_eqi (x' := 0) e8 ?_
    refine zr_iload dL_law_2476 rfl ?_
    refine zr_icmp_eq (tgt := 2483) dL_law_2478 (by decide) (fun c_2478 => ?_) (fun c_2478 => absurd (by decide) c_2478)
    refine zr_iload dL_law_2483 rfl ?_
    refine zr_if_ne (tgt := 2500) dL_law_2485 (by decide) (fun c_2485 => absurd (by decide) c_2485) (fun c_2485 => ?_)
    refine zr_aload_n dL_law_2488 rfl ?_
    refine zr_iconst (v := 0) dL_law_2489 (by decide) ?_
    refine zr_laload dL_law_2490 ko2 (vp_in_nI (n := 0) (by omega) (by omega)) ?_
    rw [show (0 : Int32).toNatClampNeg = 0 from by decide]
    refine zr_eql (x' := v.toInt64) (by unfold vp_updL; rw [if_pos rfl]) ?_
    refine zr_iload dL_law_2491 rfl ?_
    refine zr_i2l dL_law_2493 ?_
    refine zr_lcmp dL_law_2494 ?_
    refine zr_eqi (x' := 0) (lcmp_self _) ?_
    refine zr_if_eq (tgt := 2500) dL_law_2495 (by decide) (fun c_2495 => ?_) (fun c_2495 => absurd (by decide) c_2495)
    refine zr_goto (tgt := 2861) dL_law_2500 (by decide) ?_
    exact zr_less (by omega) (by omega) (kk u _ _ _ _ hI F3 ko2)
  · skip
    rcases List.mem_cons.mp hk with ek | hk
    · cases ek
      refine zr_callH (rest := []) dL_law_2455 vL_305 (wN1_writeCase hX hc hx) (by omega) (by omega) (by omega) rfl rfl (Nat.le_of_ble_eq_true rfl) rfl (fun v2 s1 h_ => ?_) (fun E1 s1 h_ => by obtain ⟨r, e, -⟩ := h_; cases e)
      obtain ⟨r, e, e2, hq⟩ := h_
      cases e
      rw [e2]
      have F0 := (hr _ hq).1
      have hy0 := zFr.get F0 (by unfold zXr; omega) hyo
      obtain ⟨d2, d29, hr2⟩ := (hr _ hq).2 s1 zFr.rf
      have hy := hy0
      have F1 : zFr σ s1 (fun q => x ≤ q ∧ q < x + 274) := F0.w (fun q hq => by unfold zXr at hq; omega)
      have ko := zFr.get F0 (by unfold zXr; omega) ho
      refine zr_istore (ls' := [some (.ref ((zQ X 37))), some (.ref x), some (.ref ((x + 261))), some (.ref ((x + 273))), some (.ref ((x + 274))), some (.int (nI i)), some (.int 1), l7, l8]) dL_law_2458 (by decide) rfl ?_
      refine zr_aload_n dL_law_2460 rfl ?_
      refine zr_aload_n dL_law_2461 rfl ?_
      refine zr_iload dL_law_2462 rfl ?_
      refine zr_iconst (v := 1) dL_law_2464 (by decide) ?_
      refine zr_iadd dL_law_2465 ?_
      refine zr_eqi (x' := nI (i + 1)) (nI_add i 1) ?_
      refine zr_sat dL_law_2466 (vp_in_nI (n := i + 1) (by omega) (by omega)) ?_
      rw [nI_clamp (n := i + 1) (by omega)]
      refine zr_callVi (rest := []) dL_law_2467 vL_307 hr2 hy (by omega) (by omega) (by omega) rfl rfl (Nat.le_of_ble_eq_true rfl) (by decide) rfl (fun r3 u h3 => ?_)
      obtain ⟨er, F2, hI⟩ := h3
      have F3 : zFr σ u (fun q => x ≤ q ∧ q < x + 274) := zFr.tr F1 F2 (fun q hq => by unfold zMr at hq; omega)
      have ko2 := zFr.get F2 (by unfold zMr; omega) ko
      obtain ⟨F8, h8, e8⟩ := hI.oy
      refine zr_istore (ls' := [some (.ref ((zQ X 37))), some (.ref x), some (.ref ((x + 261))), some (.ref ((x + 273))), some (.ref ((x + 274))), some (.int (nI i)), some (.int 1), some (.int r3), l8]) dL_law_2470 (by decide) rfl ?_
      refine zr_aload_n dL_law_2472 rfl ?_
      refine zr_pVi (rest := []) dL_law_2473 vL_173 (qX10_thrown hX h8) h8 (by omega) (by omega) (by omega) rfl rfl (Nat.le_of_ble_eq_true rfl) (by decide) rfl ?_
      refine zr_eqi (x' := 1) e8 ?_
      refine zr_iload dL_law_2476 rfl ?_
      refine zr_icmp_eq (tgt := 2483) dL_law_2478 (by decide) (fun c_2478 => ?_) (fun c_2478 => absurd (by decide) c_2478)
      refine zr_iload dL_law_2483 rfl ?_
      refine zr_if_ne (tgt := 2500) dL_law_2485 (by decide) (fun c_2485 => ?_) (fun c_2485 => absurd c_2485 (by decide))
      refine zr_goto (tgt := 2861) dL_law_2500 (by decide) ?_
      exact zr_less (by omega) (by omega) (kk u _ _ _ _ hI F3 ko2)
    · skip
      cases hk

set_option maxHeartbeats 400000 in
set_option maxRecDepth 100000 in
theorem blk_writeRelaxed {X : zX} (hX : X.1.stackTraces = false) {Q : zO → zS → Prop} {σ : zS} {x i bc bs : Nat} {l6 l7 l8 : Option Value} {f : Nat → Int64} (hQ : ∀ i j : Nat, i < 7 → j < 7 → zQ X i = zQ X j → i = j) (hi : i + 4 ≤ zsL X) (hs : zsL X < 2 ^ 31) (hI0 : zIv x (x + 261) 0 σ ∨ ∃ cd, zIv x (x + 261) cd σ) (hN : σ.2 = none) (ho : σ.1 (x + 273) = .inl (3, 1, .inr (.inl f))) (kk : ∀ (s : zS) (cd : Int32) (f2 : Nat → Int64) (m6 m7 : Option Value), zIv x (x + 261) cd s → zFr σ s (fun q => x ≤ q ∧ q < x + 274) → s.1 (x + 273) = .inl (3, 1, .inr (.inl f2)) → zW X mL_law 12 bc bs Q 2861 [some (.ref (zQ X 37)), some (.ref x), some (.ref (x + 261)), some (.ref (x + 273)), some (.ref (x + 274)), some (.int (nI i)), m6, m7, l8] [] s) : zW X mL_law 12 (bc + 1) (bs + 6) Q 2503 [some (.ref (zQ X 37)), some (.ref x), some (.ref (x + 261)), some (.ref (x + 273)), some (.ref (x + 274)), some (.int (nI i)), l6, l7, l8] [] σ := by
  have hs2 : zsL X = X.2.2.2.2.2.1 := rfl
  obtain ⟨cd, hI⟩ : ∃ cd, zIv x (x + 261) cd σ := hI0.elim (fun h => ⟨_, h⟩) id
  obtain ⟨fs, hx⟩ := hI.ox
  obtain ⟨Fo, hyo, -⟩ := hI.oy
  obtain ⟨⟨A, S, m, U, n, T, ll, ln, hs1, kf, ld, dt, dc⟩, hK, hM, hL⟩ := hI
  refine zr_aload_n dL_law_2503 rfl ?_
  refine zr_aload_n dL_law_2504 rfl ?_
  refine zr_iload dL_law_2505 rfl ?_
  refine zr_iconst (v := 1) dL_law_2507 (by decide) ?_
  refine zr_iadd dL_law_2508 ?_
  refine zr_eqi (x' := nI (i + 1)) (nI_add i 1) ?_
  refine zr_sat dL_law_2509 (vp_in_nI (n := i + 1) (by omega) (by omega)) ?_
  rw [nI_clamp (n := i + 1) (by omega)]
  refine zr_aload_n dL_law_2510 rfl ?_
  have hsm := sem_writeRelaxed hX hK hM hL hN hQ (X.2.2.2.2.2.2 (i + 1))
  rcases hsm with ⟨v, d1, mc, ms, Qs, d9, m1, m6, hc, hr⟩ | ⟨E, k, d1, mc, ms, Qs, hk, d9, m1, m6, hc, hr⟩
  · refine zr_callH (rest := []) dL_law_2511 vL_308 (wOK_writeRelaxed hX hc hx (fun s2 hq => zFr.get (hr s2 hq).1 (by unfold zXr; omega) ho)) (by omega) (by omega) (by omega) rfl rfl (Nat.le_of_ble_eq_true rfl) rfl (fun v2 s1 h_ => ?_) (fun E1 s1 h_ => by obtain ⟨r, e, -⟩ := h_; cases e)
    obtain ⟨r, e, e2, s2, hq, et⟩ := h_
    cases e
    rw [e2]
    have F0 := (hr _ hq).1
    have hy0 := zFr.get F0 (by unfold zXr; omega) hyo
    have Ft : zFr s2 s1 (zOu x) := by rw [et]; exact ⟨rfl, fun a ha => zup_ne _ _ (fun z => ha (by unfold zOu; omega))⟩
    obtain ⟨d2, d29, hr2⟩ := (hr _ hq).2 s1 Ft
    have hy := zFr.get Ft (by unfold zOu; omega) hy0
    have F1 : zFr σ s1 (fun q => x ≤ q ∧ q < x + 274) := zFr.tr (F0.w (fun q hq => by unfold zXr at hq; omega)) (P := fun q => x ≤ q ∧ q < x + 274) (show zFr s2 s1 (fun q => x ≤ q ∧ q < x + 274) from by rw [et]; exact ⟨rfl, fun a ha => zup_ne _ _ (fun z => ha (by omega))⟩) (fun q hq => hq)
    have ko : s1.1 (x + 273) = .inl (3, 1, .inr (.inl (vp_updL f 0 v.toInt64))) := by rw [et]; exact zup_at _ _ _
    refine zr_istore (ls' := [some (.ref ((zQ X 37))), some (.ref x), some (.ref ((x + 261))), some (.ref ((x + 273))), some (.ref ((x + 274))), some (.int (nI i)), some (.int 0), l7, l8]) dL_law_2514 (by decide) rfl ?_
    refine zr_aload_n dL_law_2516 rfl ?_
    refine zr_aload_n dL_law_2517 rfl ?_
    refine zr_iload dL_law_2518 rfl ?_
    refine zr_iconst (v := 1) dL_law_2520 (by decide) ?_
    refine zr_iadd dL_law_2521 ?_
    refine zr_eqi (x' := nI (i + 1)) (nI_add i 1) ?_
    refine zr_sat dL_law_2522 (vp_in_nI (n := i + 1) (by omega) (by omega)) ?_
    rw [nI_clamp (n := i + 1) (by omega)]
    refine zr_callVi (rest := []) dL_law_2523 vL_310 hr2 hy (by omega) (by omega) (by omega) rfl rfl (Nat.le_of_ble_eq_true rfl) (by decide) rfl (fun r3 u h3 => ?_)
    obtain ⟨er, F2, hI⟩ := h3
    rw [er]
    have F3 : zFr σ u (fun q => x ≤ q ∧ q < x + 274) := zFr.tr F1 F2 (fun q hq => by unfold zMr at hq; omega)
    have ko2 := zFr.get F2 (by unfold zMr; omega) ko
    obtain ⟨F8, h8, e8⟩ := hI.oy
    refine zr_istore (ls' := [some (.ref ((zQ X 37))), some (.ref x), some (.ref ((x + 261))), some (.ref ((x + 273))), some (.ref ((x + 274))), some (.int (nI i)), some (.int 0), some (.int v), l8]) dL_law_2526 (by decide) rfl ?_
    refine zr_aload_n dL_law_2528 rfl ?_
    refine zr_pVi (rest := []) dL_law_2529 vL_173 (qX10_thrown hX h8) h8 (by omega) (by omega) (by omega) rfl rfl (Nat.le_of_ble_eq_true rfl) (by decide) rfl ?_
    refine zr_eqi (x' := 0) e8 ?_
    refine zr_iload dL_law_2532 rfl ?_
    refine zr_icmp_eq (tgt := 2539) dL_law_2534 (by decide) (fun c_2534 => ?_) (fun c_2534 => absurd (by decide) c_2534)
    refine zr_iload dL_law_2539 rfl ?_
    refine zr_if_ne (tgt := 2556) dL_law_2541 (by decide) (fun c_2541 => absurd (by decide) c_2541) (fun c_2541 => ?_)
    refine zr_aload_n dL_law_2544 rfl ?_
    refine zr_iconst (v := 0) dL_law_2545 (by decide) ?_
    refine zr_laload dL_law_2546 ko2 (vp_in_nI (n := 0) (by omega) (by omega)) ?_
    rw [show (0 : Int32).toNatClampNeg = 0 from by decide]
    refine zr_eql (x' := v.toInt64) (by unfold vp_updL; rw [if_pos rfl]) ?_
    refine zr_iload dL_law_2547 rfl ?_
    refine zr_i2l dL_law_2549 ?_
    refine zr_lcmp dL_law_2550 ?_
    refine zr_eqi (x' := 0) (lcmp_self _) ?_
    refine zr_if_eq (tgt := 2556) dL_law_2551 (by decide) (fun c_2551 => ?_) (fun c_2551 => absurd (by decide) c_2551)
    refine zr_goto (tgt := 2861) dL_law_2556 (by decide) ?_
    exact zr_less (by omega) (by omega) (kk u _ _ _ _ hI F3 ko2)
  · skip
    rcases List.mem_cons.mp hk with ek | hk
    · cases ek
      refine zr_callH (rest := []) dL_law_2511 vL_308 (wN1_writeRelaxed hX hc hx) (by omega) (by omega) (by omega) rfl rfl (Nat.le_of_ble_eq_true rfl) rfl (fun v2 s1 h_ => ?_) (fun E1 s1 h_ => by obtain ⟨r, e, -⟩ := h_; cases e)
      obtain ⟨r, e, e2, hq⟩ := h_
      cases e
      rw [e2]
      have F0 := (hr _ hq).1
      have hy0 := zFr.get F0 (by unfold zXr; omega) hyo
      obtain ⟨d2, d29, hr2⟩ := (hr _ hq).2 s1 zFr.rf
      have hy := hy0
      have F1 : zFr σ s1 (fun q => x ≤ q ∧ q < x + 274) := F0.w (fun q hq => by unfold zXr at hq; omega)
      have ko := zFr.get F0 (by unfold zXr; omega) ho
      refine zr_istore (ls' := [some (.ref ((zQ X 37))), some (.ref x), some (.ref ((x + 261))), some (.ref ((x + 273))), some (.ref ((x + 274))), some (.int (nI i)), some (.int 1), l7, l8]) dL_law_2514 (by decide) rfl ?_
      refine zr_aload_n dL_law_2516 rfl ?_
      refine zr_aload_n dL_law_2517 rfl ?_
      refine zr_iload dL_law_2518 rfl ?_
      refine zr_iconst (v := 1) dL_law_2520 (by decide) ?_
      refine zr_iadd dL_law_2521 ?_
      refine zr_eqi (x' := nI (i + 1)) (nI_add i 1) ?_
      refine zr_sat dL_law_2522 (vp_in_nI (n := i + 1) (by omega) (by omega)) ?_
      rw [nI_clamp (n := i + 1) (by omega)]
      refine zr_callVi (rest := []) dL_law_2523 vL_310 hr2 hy (by omega) (by omega) (by omega) rfl rfl (Nat.le_of_ble_eq_true rfl) (by decide) rfl (fun r3 u h3 => ?_)
      obtain ⟨er, F2, hI⟩ := h3
      have F3 : zFr σ u (fun q => x ≤ q ∧ q < x + 274) := zFr.tr F1 F2 (fun q hq => by unfold zMr at hq; omega)
      have ko2 := zFr.get F2 (by unfold zMr; omega) ko
      obtain ⟨F8, h8, e8⟩ := hI.oy
      refine zr_istore (ls' := [some (.ref ((zQ X 37))), some (.ref x), some (.ref ((x + 261))), some (.ref ((x + 273))), some (.ref ((x + 274))), some (.int (nI i)), some (.int 1), some (.int r3), l8]) dL_law_2526 (by decide) rfl ?_
      refine zr_aload_n dL_law_2528 rfl ?_
      refine zr_pVi (rest := []) dL_law_2529 vL_173 (qX10_thrown hX h8) h8 (by omega) (by omega) (by omega) rfl rfl (Nat.le_of_ble_eq_true rfl) (by decide) rfl ?_
      refine zr_eqi (x' := 1) e8 ?_
      refine zr_iload dL_law_2532 rfl ?_
      refine zr_icmp_eq (tgt := 2539) dL_law_2534 (by decide) (fun c_2534 => ?_) (fun c_2534 => absurd (by decide) c_2534)
      refine zr_iload dL_law_2539 rfl ?_
      refine zr_if_ne (tgt := 2556) dL_law_2541 (by decide) (fun c_2541 => ?_) (fun c_2541 => absurd c_2541 (by decide))
      refine zr_goto (tgt := 2861) dL_law_2556 (by decide) ?_
      exact zr_less (by omega) (by omega) (kk u _ _ _ _ hI F3 ko2)
    · skip
      rcases List.mem_cons.mp hk with ek | hk
      · cases ek
        refine zr_callH (rest := []) dL_law_2511 vL_308 (wN2_writeRelaxed hX hc hx) (by omega) (by omega) (by omega) rfl rfl (Nat.le_of_ble_eq_true rfl) rfl (fun v2 s1 h_ => ?_) (fun E1 s1 h_ => by obtain ⟨r, e, -⟩ := h_; cases e)
        obtain ⟨r, e, e2, hq⟩ := h_
        cases e
        rw [e2]
        have F0 := (hr _ hq).1
        have hy0 := zFr.get F0 (by unfold zXr; omega) hyo
        obtain ⟨d2, d29, hr2⟩ := (hr _ hq).2 s1 zFr.rf
        have hy := hy0
        have F1 : zFr σ s1 (fun q => x ≤ q ∧ q < x + 274) := F0.w (fun q hq => by unfold zXr at hq; omega)
        have ko := zFr.get F0 (by unfold zXr; omega) ho
        refine zr_istore (ls' := [some (.ref ((zQ X 37))), some (.ref x), some (.ref ((x + 261))), some (.ref ((x + 273))), some (.ref ((x + 274))), some (.int (nI i)), some (.int 2), l7, l8]) dL_law_2514 (by decide) rfl ?_
        refine zr_aload_n dL_law_2516 rfl ?_
        refine zr_aload_n dL_law_2517 rfl ?_
        refine zr_iload dL_law_2518 rfl ?_
        refine zr_iconst (v := 1) dL_law_2520 (by decide) ?_
        refine zr_iadd dL_law_2521 ?_
        refine zr_eqi (x' := nI (i + 1)) (nI_add i 1) ?_
        refine zr_sat dL_law_2522 (vp_in_nI (n := i + 1) (by omega) (by omega)) ?_
        rw [nI_clamp (n := i + 1) (by omega)]
        refine zr_callVi (rest := []) dL_law_2523 vL_310 hr2 hy (by omega) (by omega) (by omega) rfl rfl (Nat.le_of_ble_eq_true rfl) (by decide) rfl (fun r3 u h3 => ?_)
        obtain ⟨er, F2, hI⟩ := h3
        have F3 : zFr σ u (fun q => x ≤ q ∧ q < x + 274) := zFr.tr F1 F2 (fun q hq => by unfold zMr at hq; omega)
        have ko2 := zFr.get F2 (by unfold zMr; omega) ko
        obtain ⟨F8, h8, e8⟩ := hI.oy
        refine zr_istore (ls' := [some (.ref ((zQ X 37))), some (.ref x), some (.ref ((x + 261))), some (.ref ((x + 273))), some (.ref ((x + 274))), some (.int (nI i)), some (.int 2), some (.int r3), l8]) dL_law_2526 (by decide) rfl ?_
        refine zr_aload_n dL_law_2528 rfl ?_
        refine zr_pVi (rest := []) dL_law_2529 vL_173 (qX10_thrown hX h8) h8 (by omega) (by omega) (by omega) rfl rfl (Nat.le_of_ble_eq_true rfl) (by decide) rfl ?_
        refine zr_eqi (x' := 2) e8 ?_
        refine zr_iload dL_law_2532 rfl ?_
        refine zr_icmp_eq (tgt := 2539) dL_law_2534 (by decide) (fun c_2534 => ?_) (fun c_2534 => absurd (by decide) c_2534)
        refine zr_iload dL_law_2539 rfl ?_
        refine zr_if_ne (tgt := 2556) dL_law_2541 (by decide) (fun c_2541 => ?_) (fun c_2541 => absurd c_2541 (by decide))
        refine zr_goto (tgt := 2861) dL_law_2556 (by decide) ?_
        exact zr_less (by omega) (by omega) (kk u _ _ _ _ hI F3 ko2)
      · skip
        cases hk

set_option maxHeartbeats 400000 in
set_option maxRecDepth 100000 in
theorem blk_lineCharacter {X : zX} (hX : X.1.stackTraces = false) {Q : zO → zS → Prop} {σ : zS} {x i bc bs : Nat} {l6 l7 l8 : Option Value} {f : Nat → Int64} (hQ : ∀ i j : Nat, i < 7 → j < 7 → zQ X i = zQ X j → i = j) (hi : i + 4 ≤ zsL X) (hs : zsL X < 2 ^ 31) (hI0 : zIv x (x + 261) 0 σ ∨ ∃ cd, zIv x (x + 261) cd σ) (hN : σ.2 = none) (ho : σ.1 (x + 273) = .inl (3, 1, .inr (.inl f))) (kk : ∀ (s : zS) (cd : Int32) (f2 : Nat → Int64) (m6 m7 : Option Value), zIv x (x + 261) cd s → zFr σ s (fun q => x ≤ q ∧ q < x + 274) → s.1 (x + 273) = .inl (3, 1, .inr (.inl f2)) → zW X mL_law 12 bc bs Q 2861 [some (.ref (zQ X 37)), some (.ref x), some (.ref (x + 261)), some (.ref (x + 273)), some (.ref (x + 274)), some (.int (nI i)), m6, m7, l8] [] s) : zW X mL_law 12 (bc + 1) (bs + 6) Q 2559 [some (.ref (zQ X 37)), some (.ref x), some (.ref (x + 261)), some (.ref (x + 273)), some (.ref (x + 274)), some (.int (nI i)), l6, l7, l8] [] σ := by
  have hs2 : zsL X = X.2.2.2.2.2.1 := rfl
  obtain ⟨cd, hI⟩ : ∃ cd, zIv x (x + 261) cd σ := hI0.elim (fun h => ⟨_, h⟩) id
  obtain ⟨fs, hx⟩ := hI.ox
  obtain ⟨Fo, hyo, -⟩ := hI.oy
  obtain ⟨⟨A, S, m, U, n, T, ll, ln, hs1, kf, ld, dt, dc⟩, hK, hM, hL⟩ := hI
  refine zr_aload_n dL_law_2559 rfl ?_
  refine zr_aload_n dL_law_2560 rfl ?_
  refine zr_iload dL_law_2561 rfl ?_
  refine zr_iconst (v := 1) dL_law_2563 (by decide) ?_
  refine zr_iadd dL_law_2564 ?_
  refine zr_eqi (x' := nI (i + 1)) (nI_add i 1) ?_
  refine zr_sat dL_law_2565 (vp_in_nI (n := i + 1) (by omega) (by omega)) ?_
  rw [nI_clamp (n := i + 1) (by omega)]
  refine zr_aload_n dL_law_2566 rfl ?_
  have hsm := sem_lineCharacter hX hK hM hL hN hQ (X.2.2.2.2.2.2 (i + 1))
  rcases hsm with ⟨v, d1, mc, ms, Qs, d9, m1, m6, hc, hr⟩ | ⟨E, k, d1, mc, ms, Qs, hk, d9, m1, m6, hc, hr⟩
  · refine zr_callH (rest := []) dL_law_2567 vL_311 (wOK_lineCharacter hX hc hx (fun s2 hq => zFr.get (hr s2 hq).1 (by unfold zXr; omega) ho)) (by omega) (by omega) (by omega) rfl rfl (Nat.le_of_ble_eq_true rfl) rfl (fun v2 s1 h_ => ?_) (fun E1 s1 h_ => by obtain ⟨r, e, -⟩ := h_; cases e)
    obtain ⟨r, e, e2, s2, hq, et⟩ := h_
    cases e
    rw [e2]
    have F0 := (hr _ hq).1
    have hy0 := zFr.get F0 (by unfold zXr; omega) hyo
    have Ft : zFr s2 s1 (zOu x) := by rw [et]; exact ⟨rfl, fun a ha => zup_ne _ _ (fun z => ha (by unfold zOu; omega))⟩
    obtain ⟨d2, d29, hr2⟩ := (hr _ hq).2 s1 Ft
    have hy := zFr.get Ft (by unfold zOu; omega) hy0
    have F1 : zFr σ s1 (fun q => x ≤ q ∧ q < x + 274) := zFr.tr (F0.w (fun q hq => by unfold zXr at hq; omega)) (P := fun q => x ≤ q ∧ q < x + 274) (show zFr s2 s1 (fun q => x ≤ q ∧ q < x + 274) from by rw [et]; exact ⟨rfl, fun a ha => zup_ne _ _ (fun z => ha (by omega))⟩) (fun q hq => hq)
    have ko : s1.1 (x + 273) = .inl (3, 1, .inr (.inl (vp_updL f 0 v.toInt64))) := by rw [et]; exact zup_at _ _ _
    refine zr_istore (ls' := [some (.ref ((zQ X 37))), some (.ref x), some (.ref ((x + 261))), some (.ref ((x + 273))), some (.ref ((x + 274))), some (.int (nI i)), some (.int 0), l7, l8]) dL_law_2570 (by decide) rfl ?_
    refine zr_aload_n dL_law_2572 rfl ?_
    refine zr_aload_n dL_law_2573 rfl ?_
    refine zr_iload dL_law_2574 rfl ?_
    refine zr_iconst (v := 1) dL_law_2576 (by decide) ?_
    refine zr_iadd dL_law_2577 ?_
    refine zr_eqi (x' := nI (i + 1)) (nI_add i 1) ?_
    refine zr_sat dL_law_2578 (vp_in_nI (n := i + 1) (by omega) (by omega)) ?_
    rw [nI_clamp (n := i + 1) (by omega)]
    refine zr_callVi (rest := []) dL_law_2579 vL_313 hr2 hy (by omega) (by omega) (by omega) rfl rfl (Nat.le_of_ble_eq_true rfl) (by decide) rfl (fun r3 u h3 => ?_)
    obtain ⟨er, F2, hI⟩ := h3
    rw [er]
    have F3 : zFr σ u (fun q => x ≤ q ∧ q < x + 274) := zFr.tr F1 F2 (fun q hq => by unfold zMr at hq; omega)
    have ko2 := zFr.get F2 (by unfold zMr; omega) ko
    obtain ⟨F8, h8, e8⟩ := hI.oy
    refine zr_istore (ls' := [some (.ref ((zQ X 37))), some (.ref x), some (.ref ((x + 261))), some (.ref ((x + 273))), some (.ref ((x + 274))), some (.int (nI i)), some (.int 0), some (.int v), l8]) dL_law_2582 (by decide) rfl ?_
    refine zr_aload_n dL_law_2584 rfl ?_
    refine zr_pVi (rest := []) dL_law_2585 vL_173 (qX10_thrown hX h8) h8 (by omega) (by omega) (by omega) rfl rfl (Nat.le_of_ble_eq_true rfl) (by decide) rfl ?_
    refine zr_eqi (x' := 0) e8 ?_
    refine zr_iload dL_law_2588 rfl ?_
    refine zr_icmp_eq (tgt := 2595) dL_law_2590 (by decide) (fun c_2590 => ?_) (fun c_2590 => absurd (by decide) c_2590)
    refine zr_iload dL_law_2595 rfl ?_
    refine zr_if_ne (tgt := 2612) dL_law_2597 (by decide) (fun c_2597 => absurd (by decide) c_2597) (fun c_2597 => ?_)
    refine zr_aload_n dL_law_2600 rfl ?_
    refine zr_iconst (v := 0) dL_law_2601 (by decide) ?_
    refine zr_laload dL_law_2602 ko2 (vp_in_nI (n := 0) (by omega) (by omega)) ?_
    rw [show (0 : Int32).toNatClampNeg = 0 from by decide]
    refine zr_eql (x' := v.toInt64) (by unfold vp_updL; rw [if_pos rfl]) ?_
    refine zr_iload dL_law_2603 rfl ?_
    refine zr_i2l dL_law_2605 ?_
    refine zr_lcmp dL_law_2606 ?_
    refine zr_eqi (x' := 0) (lcmp_self _) ?_
    refine zr_if_eq (tgt := 2612) dL_law_2607 (by decide) (fun c_2607 => ?_) (fun c_2607 => absurd (by decide) c_2607)
    refine zr_goto (tgt := 2861) dL_law_2612 (by decide) ?_
    exact zr_less (by omega) (by omega) (kk u _ _ _ _ hI F3 ko2)
  · skip
    rcases List.mem_cons.mp hk with ek | hk
    · cases ek
      refine zr_callH (rest := []) dL_law_2567 vL_311 (wN1_lineCharacter hX hc hx) (by omega) (by omega) (by omega) rfl rfl (Nat.le_of_ble_eq_true rfl) rfl (fun v2 s1 h_ => ?_) (fun E1 s1 h_ => by obtain ⟨r, e, -⟩ := h_; cases e)
      obtain ⟨r, e, e2, hq⟩ := h_
      cases e
      rw [e2]
      have F0 := (hr _ hq).1
      have hy0 := zFr.get F0 (by unfold zXr; omega) hyo
      obtain ⟨d2, d29, hr2⟩ := (hr _ hq).2 s1 zFr.rf
      have hy := hy0
      have F1 : zFr σ s1 (fun q => x ≤ q ∧ q < x + 274) := F0.w (fun q hq => by unfold zXr at hq; omega)
      have ko := zFr.get F0 (by unfold zXr; omega) ho
      refine zr_istore (ls' := [some (.ref ((zQ X 37))), some (.ref x), some (.ref ((x + 261))), some (.ref ((x + 273))), some (.ref ((x + 274))), some (.int (nI i)), some (.int 1), l7, l8]) dL_law_2570 (by decide) rfl ?_
      refine zr_aload_n dL_law_2572 rfl ?_
      refine zr_aload_n dL_law_2573 rfl ?_
      refine zr_iload dL_law_2574 rfl ?_
      refine zr_iconst (v := 1) dL_law_2576 (by decide) ?_
      refine zr_iadd dL_law_2577 ?_
      refine zr_eqi (x' := nI (i + 1)) (nI_add i 1) ?_
      refine zr_sat dL_law_2578 (vp_in_nI (n := i + 1) (by omega) (by omega)) ?_
      rw [nI_clamp (n := i + 1) (by omega)]
      refine zr_callVi (rest := []) dL_law_2579 vL_313 hr2 hy (by omega) (by omega) (by omega) rfl rfl (Nat.le_of_ble_eq_true rfl) (by decide) rfl (fun r3 u h3 => ?_)
      obtain ⟨er, F2, hI⟩ := h3
      have F3 : zFr σ u (fun q => x ≤ q ∧ q < x + 274) := zFr.tr F1 F2 (fun q hq => by unfold zMr at hq; omega)
      have ko2 := zFr.get F2 (by unfold zMr; omega) ko
      obtain ⟨F8, h8, e8⟩ := hI.oy
      refine zr_istore (ls' := [some (.ref ((zQ X 37))), some (.ref x), some (.ref ((x + 261))), some (.ref ((x + 273))), some (.ref ((x + 274))), some (.int (nI i)), some (.int 1), some (.int r3), l8]) dL_law_2582 (by decide) rfl ?_
      refine zr_aload_n dL_law_2584 rfl ?_
      refine zr_pVi (rest := []) dL_law_2585 vL_173 (qX10_thrown hX h8) h8 (by omega) (by omega) (by omega) rfl rfl (Nat.le_of_ble_eq_true rfl) (by decide) rfl ?_
      refine zr_eqi (x' := 1) e8 ?_
      refine zr_iload dL_law_2588 rfl ?_
      refine zr_icmp_eq (tgt := 2595) dL_law_2590 (by decide) (fun c_2590 => ?_) (fun c_2590 => absurd (by decide) c_2590)
      refine zr_iload dL_law_2595 rfl ?_
      refine zr_if_ne (tgt := 2612) dL_law_2597 (by decide) (fun c_2597 => ?_) (fun c_2597 => absurd c_2597 (by decide))
      refine zr_goto (tgt := 2861) dL_law_2612 (by decide) ?_
      exact zr_less (by omega) (by omega) (kk u _ _ _ _ hI F3 ko2)
    · skip
      cases hk

set_option maxHeartbeats 400000 in
set_option maxRecDepth 100000 in
theorem blk_denial {X : zX} (hX : X.1.stackTraces = false) {Q : zO → zS → Prop} {σ : zS} {x i bc bs : Nat} {l6 l7 l8 : Option Value} {f : Nat → Int64} (hQ : ∀ i j : Nat, i < 7 → j < 7 → zQ X i = zQ X j → i = j) (hi : i + 4 ≤ zsL X) (hs : zsL X < 2 ^ 31) (hI0 : zIv x (x + 261) 0 σ ∨ ∃ cd, zIv x (x + 261) cd σ) (hN : σ.2 = none) (ho : σ.1 (x + 273) = .inl (3, 1, .inr (.inl f))) (kk : ∀ (s : zS) (cd : Int32) (f2 : Nat → Int64) (m6 m7 : Option Value), zIv x (x + 261) cd s → zFr σ s (fun q => x ≤ q ∧ q < x + 274) → s.1 (x + 273) = .inl (3, 1, .inr (.inl f2)) → zW X mL_law 12 bc bs Q 2861 [some (.ref (zQ X 37)), some (.ref x), some (.ref (x + 261)), some (.ref (x + 273)), some (.ref (x + 274)), some (.int (nI i)), m6, m7, l8] [] s) : zW X mL_law 12 (bc + 1) (bs + 6) Q 2615 [some (.ref (zQ X 37)), some (.ref x), some (.ref (x + 261)), some (.ref (x + 273)), some (.ref (x + 274)), some (.int (nI i)), l6, l7, l8] [] σ := by
  have hs2 : zsL X = X.2.2.2.2.2.1 := rfl
  obtain ⟨cd, hI⟩ : ∃ cd, zIv x (x + 261) cd σ := hI0.elim (fun h => ⟨_, h⟩) id
  obtain ⟨fs, hx⟩ := hI.ox
  obtain ⟨Fo, hyo, -⟩ := hI.oy
  obtain ⟨⟨A, S, m, U, n, T, ll, ln, hs1, kf, ld, dt, dc⟩, hK, hM, hL⟩ := hI
  refine zr_aload_n dL_law_2615 rfl ?_
  refine zr_aload_n dL_law_2616 rfl ?_
  have hsm := sem_denial hX hK hM hL hN hQ
  rcases hsm with ⟨v, d1, mc, ms, Qs, d9, m1, m6, hc, hr⟩ | ⟨E, k, d1, mc, ms, Qs, hk, d9, m1, m6, hc, hr⟩
  · refine zr_callH (rest := []) dL_law_2617 vL_314 (wOK_denial hX hc hx (fun s2 hq => zFr.get (hr s2 hq).1 (by unfold zXr; omega) ho)) (by omega) (by omega) (by omega) rfl rfl (Nat.le_of_ble_eq_true rfl) rfl (fun v2 s1 h_ => ?_) (fun E1 s1 h_ => by obtain ⟨r, e, -⟩ := h_; cases e)
    obtain ⟨r, e, e2, s2, hq, et⟩ := h_
    cases e
    rw [e2]
    have F0 := (hr _ hq).1
    have hy0 := zFr.get F0 (by unfold zXr; omega) hyo
    have Ft : zFr s2 s1 (zOu x) := by rw [et]; exact ⟨rfl, fun a ha => zup_ne _ _ (fun z => ha (by unfold zOu; omega))⟩
    obtain ⟨d2, d29, hr2⟩ := (hr _ hq).2 s1 Ft
    have hy := zFr.get Ft (by unfold zOu; omega) hy0
    have F1 : zFr σ s1 (fun q => x ≤ q ∧ q < x + 274) := zFr.tr (F0.w (fun q hq => by unfold zXr at hq; omega)) (P := fun q => x ≤ q ∧ q < x + 274) (show zFr s2 s1 (fun q => x ≤ q ∧ q < x + 274) from by rw [et]; exact ⟨rfl, fun a ha => zup_ne _ _ (fun z => ha (by omega))⟩) (fun q hq => hq)
    have ko : s1.1 (x + 273) = .inl (3, 1, .inr (.inl (vp_updL f 0 v.toInt64))) := by rw [et]; exact zup_at _ _ _
    refine zr_istore (ls' := [some (.ref ((zQ X 37))), some (.ref x), some (.ref ((x + 261))), some (.ref ((x + 273))), some (.ref ((x + 274))), some (.int (nI i)), some (.int 0), l7, l8]) dL_law_2620 (by decide) rfl ?_
    refine zr_aload_n dL_law_2622 rfl ?_
    refine zr_callVi (rest := []) dL_law_2623 vL_316 hr2 hy (by omega) (by omega) (by omega) rfl rfl (Nat.le_of_ble_eq_true rfl) (by decide) rfl (fun r3 u h3 => ?_)
    obtain ⟨er, F2, hI⟩ := h3
    rw [er]
    have F3 : zFr σ u (fun q => x ≤ q ∧ q < x + 274) := zFr.tr F1 F2 (fun q hq => by unfold zMr at hq; omega)
    have ko2 := zFr.get F2 (by unfold zMr; omega) ko
    obtain ⟨F8, h8, e8⟩ := hI.oy
    refine zr_istore (ls' := [some (.ref ((zQ X 37))), some (.ref x), some (.ref ((x + 261))), some (.ref ((x + 273))), some (.ref ((x + 274))), some (.int (nI i)), some (.int 0), some (.int v), l8]) dL_law_2626 (by decide) rfl ?_
    refine zr_aload_n dL_law_2628 rfl ?_
    refine zr_pVi (rest := []) dL_law_2629 vL_173 (qX10_thrown hX h8) h8 (by omega) (by omega) (by omega) rfl rfl (Nat.le_of_ble_eq_true rfl) (by decide) rfl ?_
    refine zr_eqi (x' := 0) e8 ?_
    refine zr_iload dL_law_2632 rfl ?_
    refine zr_icmp_eq (tgt := 2639) dL_law_2634 (by decide) (fun c_2634 => ?_) (fun c_2634 => absurd (by decide) c_2634)
    refine zr_iload dL_law_2639 rfl ?_
    refine zr_if_ne (tgt := 2656) dL_law_2641 (by decide) (fun c_2641 => absurd (by decide) c_2641) (fun c_2641 => ?_)
    refine zr_aload_n dL_law_2644 rfl ?_
    refine zr_iconst (v := 0) dL_law_2645 (by decide) ?_
    refine zr_laload dL_law_2646 ko2 (vp_in_nI (n := 0) (by omega) (by omega)) ?_
    rw [show (0 : Int32).toNatClampNeg = 0 from by decide]
    refine zr_eql (x' := v.toInt64) (by unfold vp_updL; rw [if_pos rfl]) ?_
    refine zr_iload dL_law_2647 rfl ?_
    refine zr_i2l dL_law_2649 ?_
    refine zr_lcmp dL_law_2650 ?_
    refine zr_eqi (x' := 0) (lcmp_self _) ?_
    refine zr_if_eq (tgt := 2656) dL_law_2651 (by decide) (fun c_2651 => ?_) (fun c_2651 => absurd (by decide) c_2651)
    refine zr_goto (tgt := 2861) dL_law_2656 (by decide) ?_
    exact zr_less (by omega) (by omega) (kk u _ _ _ _ hI F3 ko2)
  · skip
    rcases List.mem_cons.mp hk with ek | hk
    · cases ek
      refine zr_callH (rest := []) dL_law_2617 vL_314 (wN1_denial hX hc hx) (by omega) (by omega) (by omega) rfl rfl (Nat.le_of_ble_eq_true rfl) rfl (fun v2 s1 h_ => ?_) (fun E1 s1 h_ => by obtain ⟨r, e, -⟩ := h_; cases e)
      obtain ⟨r, e, e2, hq⟩ := h_
      cases e
      rw [e2]
      have F0 := (hr _ hq).1
      have hy0 := zFr.get F0 (by unfold zXr; omega) hyo
      obtain ⟨d2, d29, hr2⟩ := (hr _ hq).2 s1 zFr.rf
      have hy := hy0
      have F1 : zFr σ s1 (fun q => x ≤ q ∧ q < x + 274) := F0.w (fun q hq => by unfold zXr at hq; omega)
      have ko := zFr.get F0 (by unfold zXr; omega) ho
      refine zr_istore (ls' := [some (.ref ((zQ X 37))), some (.ref x), some (.ref ((x + 261))), some (.ref ((x + 273))), some (.ref ((x + 274))), some (.int (nI i)), some (.int 1), l7, l8]) dL_law_2620 (by decide) rfl ?_
      refine zr_aload_n dL_law_2622 rfl ?_
      refine zr_callVi (rest := []) dL_law_2623 vL_316 hr2 hy (by omega) (by omega) (by omega) rfl rfl (Nat.le_of_ble_eq_true rfl) (by decide) rfl (fun r3 u h3 => ?_)
      obtain ⟨er, F2, hI⟩ := h3
      have F3 : zFr σ u (fun q => x ≤ q ∧ q < x + 274) := zFr.tr F1 F2 (fun q hq => by unfold zMr at hq; omega)
      have ko2 := zFr.get F2 (by unfold zMr; omega) ko
      obtain ⟨F8, h8, e8⟩ := hI.oy
      refine zr_istore (ls' := [some (.ref ((zQ X 37))), some (.ref x), some (.ref ((x + 261))), some (.ref ((x + 273))), some (.ref ((x + 274))), some (.int (nI i)), some (.int 1), some (.int r3), l8]) dL_law_2626 (by decide) rfl ?_
      refine zr_aload_n dL_law_2628 rfl ?_
      refine zr_pVi (rest := []) dL_law_2629 vL_173 (qX10_thrown hX h8) h8 (by omega) (by omega) (by omega) rfl rfl (Nat.le_of_ble_eq_true rfl) (by decide) rfl ?_
      refine zr_eqi (x' := 1) e8 ?_
      refine zr_iload dL_law_2632 rfl ?_
      refine zr_icmp_eq (tgt := 2639) dL_law_2634 (by decide) (fun c_2634 => ?_) (fun c_2634 => absurd (by decide) c_2634)
      refine zr_iload dL_law_2639 rfl ?_
      refine zr_if_ne (tgt := 2656) dL_law_2641 (by decide) (fun c_2641 => ?_) (fun c_2641 => absurd c_2641 (by decide))
      refine zr_goto (tgt := 2861) dL_law_2656 (by decide) ?_
      exact zr_less (by omega) (by omega) (kk u _ _ _ _ hI F3 ko2)
    · skip
      cases hk

set_option maxHeartbeats 400000 in
set_option maxRecDepth 100000 in
theorem blk_denialDetail {X : zX} (hX : X.1.stackTraces = false) {Q : zO → zS → Prop} {σ : zS} {x i bc bs : Nat} {l6 l7 l8 : Option Value} {f : Nat → Int64} (hQ : ∀ i j : Nat, i < 7 → j < 7 → zQ X i = zQ X j → i = j) (hi : i + 4 ≤ zsL X) (hs : zsL X < 2 ^ 31) (hI0 : zIv x (x + 261) 0 σ ∨ ∃ cd, zIv x (x + 261) cd σ) (hN : σ.2 = none) (ho : σ.1 (x + 273) = .inl (3, 1, .inr (.inl f))) (kk : ∀ (s : zS) (cd : Int32) (f2 : Nat → Int64) (m6 m7 : Option Value), zIv x (x + 261) cd s → zFr σ s (fun q => x ≤ q ∧ q < x + 274) → s.1 (x + 273) = .inl (3, 1, .inr (.inl f2)) → zW X mL_law 12 bc bs Q 2861 [some (.ref (zQ X 37)), some (.ref x), some (.ref (x + 261)), some (.ref (x + 273)), some (.ref (x + 274)), some (.int (nI i)), m6, m7, l8] [] s) : zW X mL_law 12 (bc + 1) (bs + 6) Q 2659 [some (.ref (zQ X 37)), some (.ref x), some (.ref (x + 261)), some (.ref (x + 273)), some (.ref (x + 274)), some (.int (nI i)), l6, l7, l8] [] σ := by
  have hs2 : zsL X = X.2.2.2.2.2.1 := rfl
  obtain ⟨cd, hI⟩ : ∃ cd, zIv x (x + 261) cd σ := hI0.elim (fun h => ⟨_, h⟩) id
  obtain ⟨fs, hx⟩ := hI.ox
  obtain ⟨Fo, hyo, -⟩ := hI.oy
  obtain ⟨⟨A, S, m, U, n, T, ll, ln, hs1, kf, ld, dt, dc⟩, hK, hM, hL⟩ := hI
  refine zr_aload_n dL_law_2659 rfl ?_
  refine zr_aload_n dL_law_2660 rfl ?_
  have hsm := sem_denialDetail hX hK hM hL hN hQ
  rcases hsm with ⟨v, d1, mc, ms, Qs, d9, m1, m6, hc, hr⟩ | ⟨E, k, d1, mc, ms, Qs, hk, d9, m1, m6, hc, hr⟩
  · refine zr_callH (rest := []) dL_law_2661 vL_317 (wOK_denialDetail hX hc hx (fun s2 hq => zFr.get (hr s2 hq).1 (by unfold zXr; omega) ho)) (by omega) (by omega) (by omega) rfl rfl (Nat.le_of_ble_eq_true rfl) rfl (fun v2 s1 h_ => ?_) (fun E1 s1 h_ => by obtain ⟨r, e, -⟩ := h_; cases e)
    obtain ⟨r, e, e2, s2, hq, et⟩ := h_
    cases e
    rw [e2]
    have F0 := (hr _ hq).1
    have hy0 := zFr.get F0 (by unfold zXr; omega) hyo
    have Ft : zFr s2 s1 (zOu x) := by rw [et]; exact ⟨rfl, fun a ha => zup_ne _ _ (fun z => ha (by unfold zOu; omega))⟩
    obtain ⟨d2, d29, hr2⟩ := (hr _ hq).2 s1 Ft
    have hy := zFr.get Ft (by unfold zOu; omega) hy0
    have F1 : zFr σ s1 (fun q => x ≤ q ∧ q < x + 274) := zFr.tr (F0.w (fun q hq => by unfold zXr at hq; omega)) (P := fun q => x ≤ q ∧ q < x + 274) (show zFr s2 s1 (fun q => x ≤ q ∧ q < x + 274) from by rw [et]; exact ⟨rfl, fun a ha => zup_ne _ _ (fun z => ha (by omega))⟩) (fun q hq => hq)
    have ko : s1.1 (x + 273) = .inl (3, 1, .inr (.inl (vp_updL f 0 v.toInt64))) := by rw [et]; exact zup_at _ _ _
    refine zr_istore (ls' := [some (.ref ((zQ X 37))), some (.ref x), some (.ref ((x + 261))), some (.ref ((x + 273))), some (.ref ((x + 274))), some (.int (nI i)), some (.int 0), l7, l8]) dL_law_2664 (by decide) rfl ?_
    refine zr_aload_n dL_law_2666 rfl ?_
    refine zr_callVi (rest := []) dL_law_2667 vL_319 hr2 hy (by omega) (by omega) (by omega) rfl rfl (Nat.le_of_ble_eq_true rfl) (by decide) rfl (fun r3 u h3 => ?_)
    obtain ⟨er, F2, hI⟩ := h3
    rw [er]
    have F3 : zFr σ u (fun q => x ≤ q ∧ q < x + 274) := zFr.tr F1 F2 (fun q hq => by unfold zMr at hq; omega)
    have ko2 := zFr.get F2 (by unfold zMr; omega) ko
    obtain ⟨F8, h8, e8⟩ := hI.oy
    refine zr_istore (ls' := [some (.ref ((zQ X 37))), some (.ref x), some (.ref ((x + 261))), some (.ref ((x + 273))), some (.ref ((x + 274))), some (.int (nI i)), some (.int 0), some (.int v), l8]) dL_law_2670 (by decide) rfl ?_
    refine zr_aload_n dL_law_2672 rfl ?_
    refine zr_pVi (rest := []) dL_law_2673 vL_173 (qX10_thrown hX h8) h8 (by omega) (by omega) (by omega) rfl rfl (Nat.le_of_ble_eq_true rfl) (by decide) rfl ?_
    refine zr_eqi (x' := 0) e8 ?_
    refine zr_iload dL_law_2676 rfl ?_
    refine zr_icmp_eq (tgt := 2683) dL_law_2678 (by decide) (fun c_2678 => ?_) (fun c_2678 => absurd (by decide) c_2678)
    refine zr_iload dL_law_2683 rfl ?_
    refine zr_if_ne (tgt := 2700) dL_law_2685 (by decide) (fun c_2685 => absurd (by decide) c_2685) (fun c_2685 => ?_)
    refine zr_aload_n dL_law_2688 rfl ?_
    refine zr_iconst (v := 0) dL_law_2689 (by decide) ?_
    refine zr_laload dL_law_2690 ko2 (vp_in_nI (n := 0) (by omega) (by omega)) ?_
    rw [show (0 : Int32).toNatClampNeg = 0 from by decide]
    refine zr_eql (x' := v.toInt64) (by unfold vp_updL; rw [if_pos rfl]) ?_
    refine zr_iload dL_law_2691 rfl ?_
    refine zr_i2l dL_law_2693 ?_
    refine zr_lcmp dL_law_2694 ?_
    refine zr_eqi (x' := 0) (lcmp_self _) ?_
    refine zr_if_eq (tgt := 2700) dL_law_2695 (by decide) (fun c_2695 => ?_) (fun c_2695 => absurd (by decide) c_2695)
    refine zr_goto (tgt := 2861) dL_law_2700 (by decide) ?_
    exact zr_less (by omega) (by omega) (kk u _ _ _ _ hI F3 ko2)
  · skip
    rcases List.mem_cons.mp hk with ek | hk
    · cases ek
      refine zr_callH (rest := []) dL_law_2661 vL_317 (wN1_denialDetail hX hc hx) (by omega) (by omega) (by omega) rfl rfl (Nat.le_of_ble_eq_true rfl) rfl (fun v2 s1 h_ => ?_) (fun E1 s1 h_ => by obtain ⟨r, e, -⟩ := h_; cases e)
      obtain ⟨r, e, e2, hq⟩ := h_
      cases e
      rw [e2]
      have F0 := (hr _ hq).1
      have hy0 := zFr.get F0 (by unfold zXr; omega) hyo
      obtain ⟨d2, d29, hr2⟩ := (hr _ hq).2 s1 zFr.rf
      have hy := hy0
      have F1 : zFr σ s1 (fun q => x ≤ q ∧ q < x + 274) := F0.w (fun q hq => by unfold zXr at hq; omega)
      have ko := zFr.get F0 (by unfold zXr; omega) ho
      refine zr_istore (ls' := [some (.ref ((zQ X 37))), some (.ref x), some (.ref ((x + 261))), some (.ref ((x + 273))), some (.ref ((x + 274))), some (.int (nI i)), some (.int 1), l7, l8]) dL_law_2664 (by decide) rfl ?_
      refine zr_aload_n dL_law_2666 rfl ?_
      refine zr_callVi (rest := []) dL_law_2667 vL_319 hr2 hy (by omega) (by omega) (by omega) rfl rfl (Nat.le_of_ble_eq_true rfl) (by decide) rfl (fun r3 u h3 => ?_)
      obtain ⟨er, F2, hI⟩ := h3
      have F3 : zFr σ u (fun q => x ≤ q ∧ q < x + 274) := zFr.tr F1 F2 (fun q hq => by unfold zMr at hq; omega)
      have ko2 := zFr.get F2 (by unfold zMr; omega) ko
      obtain ⟨F8, h8, e8⟩ := hI.oy
      refine zr_istore (ls' := [some (.ref ((zQ X 37))), some (.ref x), some (.ref ((x + 261))), some (.ref ((x + 273))), some (.ref ((x + 274))), some (.int (nI i)), some (.int 1), some (.int r3), l8]) dL_law_2670 (by decide) rfl ?_
      refine zr_aload_n dL_law_2672 rfl ?_
      refine zr_pVi (rest := []) dL_law_2673 vL_173 (qX10_thrown hX h8) h8 (by omega) (by omega) (by omega) rfl rfl (Nat.le_of_ble_eq_true rfl) (by decide) rfl ?_
      refine zr_eqi (x' := 1) e8 ?_
      refine zr_iload dL_law_2676 rfl ?_
      refine zr_icmp_eq (tgt := 2683) dL_law_2678 (by decide) (fun c_2678 => ?_) (fun c_2678 => absurd (by decide) c_2678)
      refine zr_iload dL_law_2683 rfl ?_
      refine zr_if_ne (tgt := 2700) dL_law_2685 (by decide) (fun c_2685 => ?_) (fun c_2685 => absurd c_2685 (by decide))
      refine zr_goto (tgt := 2861) dL_law_2700 (by decide) ?_
      exact zr_less (by omega) (by omega) (kk u _ _ _ _ hI F3 ko2)
    · skip
      cases hk

set_option maxHeartbeats 400000 in
set_option maxRecDepth 100000 in
theorem blk_denialCause {X : zX} (hX : X.1.stackTraces = false) {Q : zO → zS → Prop} {σ : zS} {x i bc bs : Nat} {l6 l7 l8 : Option Value} {f : Nat → Int64} (hQ : ∀ i j : Nat, i < 7 → j < 7 → zQ X i = zQ X j → i = j) (hi : i + 4 ≤ zsL X) (hs : zsL X < 2 ^ 31) (hI0 : zIv x (x + 261) 0 σ ∨ ∃ cd, zIv x (x + 261) cd σ) (hN : σ.2 = none) (ho : σ.1 (x + 273) = .inl (3, 1, .inr (.inl f))) (kk : ∀ (s : zS) (cd : Int32) (f2 : Nat → Int64) (m6 m7 : Option Value), zIv x (x + 261) cd s → zFr σ s (fun q => x ≤ q ∧ q < x + 274) → s.1 (x + 273) = .inl (3, 1, .inr (.inl f2)) → zW X mL_law 12 bc bs Q 2861 [some (.ref (zQ X 37)), some (.ref x), some (.ref (x + 261)), some (.ref (x + 273)), some (.ref (x + 274)), some (.int (nI i)), m6, m7, l8] [] s) : zW X mL_law 12 (bc + 1) (bs + 6) Q 2703 [some (.ref (zQ X 37)), some (.ref x), some (.ref (x + 261)), some (.ref (x + 273)), some (.ref (x + 274)), some (.int (nI i)), l6, l7, l8] [] σ := by
  have hs2 : zsL X = X.2.2.2.2.2.1 := rfl
  obtain ⟨cd, hI⟩ : ∃ cd, zIv x (x + 261) cd σ := hI0.elim (fun h => ⟨_, h⟩) id
  obtain ⟨fs, hx⟩ := hI.ox
  obtain ⟨Fo, hyo, -⟩ := hI.oy
  obtain ⟨⟨A, S, m, U, n, T, ll, ln, hs1, kf, ld, dt, dc⟩, hK, hM, hL⟩ := hI
  refine zr_aload_n dL_law_2703 rfl ?_
  refine zr_aload_n dL_law_2704 rfl ?_
  have hsm := sem_denialCause hX hK hM hL hN hQ
  rcases hsm with ⟨v, d1, mc, ms, Qs, d9, m1, m6, hc, hr⟩ | ⟨E, k, d1, mc, ms, Qs, hk, d9, m1, m6, hc, hr⟩
  · refine zr_callH (rest := []) dL_law_2705 vL_320 (wOK_denialCause hX hc hx (fun s2 hq => zFr.get (hr s2 hq).1 (by unfold zXr; omega) ho)) (by omega) (by omega) (by omega) rfl rfl (Nat.le_of_ble_eq_true rfl) rfl (fun v2 s1 h_ => ?_) (fun E1 s1 h_ => by obtain ⟨r, e, -⟩ := h_; cases e)
    obtain ⟨r, e, e2, s2, hq, et⟩ := h_
    cases e
    rw [e2]
    have F0 := (hr _ hq).1
    have hy0 := zFr.get F0 (by unfold zXr; omega) hyo
    have Ft : zFr s2 s1 (zOu x) := by rw [et]; exact ⟨rfl, fun a ha => zup_ne _ _ (fun z => ha (by unfold zOu; omega))⟩
    obtain ⟨d2, d29, hr2⟩ := (hr _ hq).2 s1 Ft
    have hy := zFr.get Ft (by unfold zOu; omega) hy0
    have F1 : zFr σ s1 (fun q => x ≤ q ∧ q < x + 274) := zFr.tr (F0.w (fun q hq => by unfold zXr at hq; omega)) (P := fun q => x ≤ q ∧ q < x + 274) (show zFr s2 s1 (fun q => x ≤ q ∧ q < x + 274) from by rw [et]; exact ⟨rfl, fun a ha => zup_ne _ _ (fun z => ha (by omega))⟩) (fun q hq => hq)
    have ko : s1.1 (x + 273) = .inl (3, 1, .inr (.inl (vp_updL f 0 v.toInt64))) := by rw [et]; exact zup_at _ _ _
    refine zr_istore (ls' := [some (.ref ((zQ X 37))), some (.ref x), some (.ref ((x + 261))), some (.ref ((x + 273))), some (.ref ((x + 274))), some (.int (nI i)), some (.int 0), l7, l8]) dL_law_2708 (by decide) rfl ?_
    refine zr_aload_n dL_law_2710 rfl ?_
    refine zr_callVi (rest := []) dL_law_2711 vL_322 hr2 hy (by omega) (by omega) (by omega) rfl rfl (Nat.le_of_ble_eq_true rfl) (by decide) rfl (fun r3 u h3 => ?_)
    obtain ⟨er, F2, hI⟩ := h3
    rw [er]
    have F3 : zFr σ u (fun q => x ≤ q ∧ q < x + 274) := zFr.tr F1 F2 (fun q hq => by unfold zMr at hq; omega)
    have ko2 := zFr.get F2 (by unfold zMr; omega) ko
    obtain ⟨F8, h8, e8⟩ := hI.oy
    refine zr_istore (ls' := [some (.ref ((zQ X 37))), some (.ref x), some (.ref ((x + 261))), some (.ref ((x + 273))), some (.ref ((x + 274))), some (.int (nI i)), some (.int 0), some (.int v), l8]) dL_law_2714 (by decide) rfl ?_
    refine zr_aload_n dL_law_2716 rfl ?_
    refine zr_pVi (rest := []) dL_law_2717 vL_173 (qX10_thrown hX h8) h8 (by omega) (by omega) (by omega) rfl rfl (Nat.le_of_ble_eq_true rfl) (by decide) rfl ?_
    refine zr_eqi (x' := 0) e8 ?_
    refine zr_iload dL_law_2720 rfl ?_
    refine zr_icmp_eq (tgt := 2727) dL_law_2722 (by decide) (fun c_2722 => ?_) (fun c_2722 => absurd (by decide) c_2722)
    refine zr_iload dL_law_2727 rfl ?_
    refine zr_if_ne (tgt := 2744) dL_law_2729 (by decide) (fun c_2729 => absurd (by decide) c_2729) (fun c_2729 => ?_)
    refine zr_aload_n dL_law_2732 rfl ?_
    refine zr_iconst (v := 0) dL_law_2733 (by decide) ?_
    refine zr_laload dL_law_2734 ko2 (vp_in_nI (n := 0) (by omega) (by omega)) ?_
    rw [show (0 : Int32).toNatClampNeg = 0 from by decide]
    refine zr_eql (x' := v.toInt64) (by unfold vp_updL; rw [if_pos rfl]) ?_
    refine zr_iload dL_law_2735 rfl ?_
    refine zr_i2l dL_law_2737 ?_
    refine zr_lcmp dL_law_2738 ?_
    refine zr_eqi (x' := 0) (lcmp_self _) ?_
    refine zr_if_eq (tgt := 2744) dL_law_2739 (by decide) (fun c_2739 => ?_) (fun c_2739 => absurd (by decide) c_2739)
    refine zr_goto (tgt := 2861) dL_law_2744 (by decide) ?_
    exact zr_less (by omega) (by omega) (kk u _ _ _ _ hI F3 ko2)
  · skip
    rcases List.mem_cons.mp hk with ek | hk
    · cases ek
      refine zr_callH (rest := []) dL_law_2705 vL_320 (wN1_denialCause hX hc hx) (by omega) (by omega) (by omega) rfl rfl (Nat.le_of_ble_eq_true rfl) rfl (fun v2 s1 h_ => ?_) (fun E1 s1 h_ => by obtain ⟨r, e, -⟩ := h_; cases e)
      obtain ⟨r, e, e2, hq⟩ := h_
      cases e
      rw [e2]
      have F0 := (hr _ hq).1
      have hy0 := zFr.get F0 (by unfold zXr; omega) hyo
      obtain ⟨d2, d29, hr2⟩ := (hr _ hq).2 s1 zFr.rf
      have hy := hy0
      have F1 : zFr σ s1 (fun q => x ≤ q ∧ q < x + 274) := F0.w (fun q hq => by unfold zXr at hq; omega)
      have ko := zFr.get F0 (by unfold zXr; omega) ho
      refine zr_istore (ls' := [some (.ref ((zQ X 37))), some (.ref x), some (.ref ((x + 261))), some (.ref ((x + 273))), some (.ref ((x + 274))), some (.int (nI i)), some (.int 1), l7, l8]) dL_law_2708 (by decide) rfl ?_
      refine zr_aload_n dL_law_2710 rfl ?_
      refine zr_callVi (rest := []) dL_law_2711 vL_322 hr2 hy (by omega) (by omega) (by omega) rfl rfl (Nat.le_of_ble_eq_true rfl) (by decide) rfl (fun r3 u h3 => ?_)
      obtain ⟨er, F2, hI⟩ := h3
      have F3 : zFr σ u (fun q => x ≤ q ∧ q < x + 274) := zFr.tr F1 F2 (fun q hq => by unfold zMr at hq; omega)
      have ko2 := zFr.get F2 (by unfold zMr; omega) ko
      obtain ⟨F8, h8, e8⟩ := hI.oy
      refine zr_istore (ls' := [some (.ref ((zQ X 37))), some (.ref x), some (.ref ((x + 261))), some (.ref ((x + 273))), some (.ref ((x + 274))), some (.int (nI i)), some (.int 1), some (.int r3), l8]) dL_law_2714 (by decide) rfl ?_
      refine zr_aload_n dL_law_2716 rfl ?_
      refine zr_pVi (rest := []) dL_law_2717 vL_173 (qX10_thrown hX h8) h8 (by omega) (by omega) (by omega) rfl rfl (Nat.le_of_ble_eq_true rfl) (by decide) rfl ?_
      refine zr_eqi (x' := 1) e8 ?_
      refine zr_iload dL_law_2720 rfl ?_
      refine zr_icmp_eq (tgt := 2727) dL_law_2722 (by decide) (fun c_2722 => ?_) (fun c_2722 => absurd (by decide) c_2722)
      refine zr_iload dL_law_2727 rfl ?_
      refine zr_if_ne (tgt := 2744) dL_law_2729 (by decide) (fun c_2729 => ?_) (fun c_2729 => absurd c_2729 (by decide))
      refine zr_goto (tgt := 2861) dL_law_2744 (by decide) ?_
      exact zr_less (by omega) (by omega) (kk u _ _ _ _ hI F3 ko2)
    · skip
      cases hk

set_option maxHeartbeats 400000 in
set_option maxRecDepth 100000 in
theorem blk_undo {X : zX} (hX : X.1.stackTraces = false) {Q : zO → zS → Prop} {σ : zS} {x i bc bs : Nat} {l6 l7 l8 : Option Value} {f : Nat → Int64} (hQ : ∀ i j : Nat, i < 7 → j < 7 → zQ X i = zQ X j → i = j) (hi : i + 4 ≤ zsL X) (hs : zsL X < 2 ^ 31) (hI0 : zIv x (x + 261) 0 σ ∨ ∃ cd, zIv x (x + 261) cd σ) (hN : σ.2 = none) (ho : σ.1 (x + 273) = .inl (3, 1, .inr (.inl f))) (kk : ∀ (s : zS) (cd : Int32) (f2 : Nat → Int64) (m6 m7 : Option Value), zIv x (x + 261) cd s → zFr σ s (fun q => x ≤ q ∧ q < x + 274) → s.1 (x + 273) = .inl (3, 1, .inr (.inl f2)) → zW X mL_law 12 bc bs Q 2861 [some (.ref (zQ X 37)), some (.ref x), some (.ref (x + 261)), some (.ref (x + 273)), some (.ref (x + 274)), some (.int (nI i)), m6, m7, l8] [] s) : zW X mL_law 12 (bc + 1) (bs + 6) Q 2747 [some (.ref (zQ X 37)), some (.ref x), some (.ref (x + 261)), some (.ref (x + 273)), some (.ref (x + 274)), some (.int (nI i)), l6, l7, l8] [] σ := by
  have hs2 : zsL X = X.2.2.2.2.2.1 := rfl
  obtain ⟨cd, hI⟩ : ∃ cd, zIv x (x + 261) cd σ := hI0.elim (fun h => ⟨_, h⟩) id
  obtain ⟨fs, hx⟩ := hI.ox
  obtain ⟨Fo, hyo, -⟩ := hI.oy
  obtain ⟨⟨A, S, m, U, n, T, ll, ln, hs1, kf, ld, dt, dc⟩, hK, hM, hL⟩ := hI
  refine zr_aload_n dL_law_2747 rfl ?_
  refine zr_aload_n dL_law_2748 rfl ?_
  have hsm := sem_undo hX hK hM hL hN hQ
  rcases hsm with ⟨v, d1, mc, ms, Qs, d9, m1, m6, hc, hr⟩ | ⟨E, k, d1, mc, ms, Qs, hk, d9, m1, m6, hc, hr⟩
  · refine zr_callH (rest := []) dL_law_2749 vL_323 (wOK_undo hX hc hx (fun s2 hq => zFr.get (hr s2 hq).1 (by unfold zXr; omega) ho)) (by omega) (by omega) (by omega) rfl rfl (Nat.le_of_ble_eq_true rfl) rfl (fun v2 s1 h_ => ?_) (fun E1 s1 h_ => by obtain ⟨r, e, -⟩ := h_; cases e)
    obtain ⟨r, e, e2, s2, hq, et⟩ := h_
    cases e
    rw [e2]
    have F0 := (hr _ hq).1
    have hy0 := zFr.get F0 (by unfold zXr; omega) hyo
    have Ft : zFr s2 s1 (zOu x) := by rw [et]; exact ⟨rfl, fun a ha => zup_ne _ _ (fun z => ha (by unfold zOu; omega))⟩
    obtain ⟨d2, d29, hr2⟩ := (hr _ hq).2 s1 Ft
    have hy := zFr.get Ft (by unfold zOu; omega) hy0
    have F1 : zFr σ s1 (fun q => x ≤ q ∧ q < x + 274) := zFr.tr (F0.w (fun q hq => by unfold zXr at hq; omega)) (P := fun q => x ≤ q ∧ q < x + 274) (show zFr s2 s1 (fun q => x ≤ q ∧ q < x + 274) from by rw [et]; exact ⟨rfl, fun a ha => zup_ne _ _ (fun z => ha (by omega))⟩) (fun q hq => hq)
    have ko : s1.1 (x + 273) = .inl (3, 1, .inr (.inl (vp_updL f 0 v.toInt64))) := by rw [et]; exact zup_at _ _ _
    refine zr_istore (ls' := [some (.ref ((zQ X 37))), some (.ref x), some (.ref ((x + 261))), some (.ref ((x + 273))), some (.ref ((x + 274))), some (.int (nI i)), some (.int 0), l7, l8]) dL_law_2752 (by decide) rfl ?_
    refine zr_aload_n dL_law_2754 rfl ?_
    refine zr_callVi (rest := []) dL_law_2755 vL_325 hr2 hy (by omega) (by omega) (by omega) rfl rfl (Nat.le_of_ble_eq_true rfl) (by decide) rfl (fun r3 u h3 => ?_)
    obtain ⟨er, F2, hI⟩ := h3
    rw [er]
    have F3 : zFr σ u (fun q => x ≤ q ∧ q < x + 274) := zFr.tr F1 F2 (fun q hq => by unfold zMr at hq; omega)
    have ko2 := zFr.get F2 (by unfold zMr; omega) ko
    obtain ⟨F8, h8, e8⟩ := hI.oy
    refine zr_istore (ls' := [some (.ref ((zQ X 37))), some (.ref x), some (.ref ((x + 261))), some (.ref ((x + 273))), some (.ref ((x + 274))), some (.int (nI i)), some (.int 0), some (.int v), l8]) dL_law_2758 (by decide) rfl ?_
    refine zr_aload_n dL_law_2760 rfl ?_
    refine zr_pVi (rest := []) dL_law_2761 vL_173 (qX10_thrown hX h8) h8 (by omega) (by omega) (by omega) rfl rfl (Nat.le_of_ble_eq_true rfl) (by decide) rfl ?_
    refine zr_eqi (x' := 0) e8 ?_
    refine zr_iload dL_law_2764 rfl ?_
    refine zr_icmp_eq (tgt := 2771) dL_law_2766 (by decide) (fun c_2766 => ?_) (fun c_2766 => absurd (by decide) c_2766)
    refine zr_iload dL_law_2771 rfl ?_
    refine zr_if_ne (tgt := 2788) dL_law_2773 (by decide) (fun c_2773 => absurd (by decide) c_2773) (fun c_2773 => ?_)
    refine zr_aload_n dL_law_2776 rfl ?_
    refine zr_iconst (v := 0) dL_law_2777 (by decide) ?_
    refine zr_laload dL_law_2778 ko2 (vp_in_nI (n := 0) (by omega) (by omega)) ?_
    rw [show (0 : Int32).toNatClampNeg = 0 from by decide]
    refine zr_eql (x' := v.toInt64) (by unfold vp_updL; rw [if_pos rfl]) ?_
    refine zr_iload dL_law_2779 rfl ?_
    refine zr_i2l dL_law_2781 ?_
    refine zr_lcmp dL_law_2782 ?_
    refine zr_eqi (x' := 0) (lcmp_self _) ?_
    refine zr_if_eq (tgt := 2788) dL_law_2783 (by decide) (fun c_2783 => ?_) (fun c_2783 => absurd (by decide) c_2783)
    refine zr_goto (tgt := 2861) dL_law_2788 (by decide) ?_
    exact zr_less (by omega) (by omega) (kk u _ _ _ _ hI F3 ko2)
  · skip
    rcases List.mem_cons.mp hk with ek | hk
    · cases ek
      refine zr_callH (rest := []) dL_law_2749 vL_323 (wN1_undo hX hc hx) (by omega) (by omega) (by omega) rfl rfl (Nat.le_of_ble_eq_true rfl) rfl (fun v2 s1 h_ => ?_) (fun E1 s1 h_ => by obtain ⟨r, e, -⟩ := h_; cases e)
      obtain ⟨r, e, e2, hq⟩ := h_
      cases e
      rw [e2]
      have F0 := (hr _ hq).1
      have hy0 := zFr.get F0 (by unfold zXr; omega) hyo
      obtain ⟨d2, d29, hr2⟩ := (hr _ hq).2 s1 zFr.rf
      have hy := hy0
      have F1 : zFr σ s1 (fun q => x ≤ q ∧ q < x + 274) := F0.w (fun q hq => by unfold zXr at hq; omega)
      have ko := zFr.get F0 (by unfold zXr; omega) ho
      refine zr_istore (ls' := [some (.ref ((zQ X 37))), some (.ref x), some (.ref ((x + 261))), some (.ref ((x + 273))), some (.ref ((x + 274))), some (.int (nI i)), some (.int 1), l7, l8]) dL_law_2752 (by decide) rfl ?_
      refine zr_aload_n dL_law_2754 rfl ?_
      refine zr_callVi (rest := []) dL_law_2755 vL_325 hr2 hy (by omega) (by omega) (by omega) rfl rfl (Nat.le_of_ble_eq_true rfl) (by decide) rfl (fun r3 u h3 => ?_)
      obtain ⟨er, F2, hI⟩ := h3
      have F3 : zFr σ u (fun q => x ≤ q ∧ q < x + 274) := zFr.tr F1 F2 (fun q hq => by unfold zMr at hq; omega)
      have ko2 := zFr.get F2 (by unfold zMr; omega) ko
      obtain ⟨F8, h8, e8⟩ := hI.oy
      refine zr_istore (ls' := [some (.ref ((zQ X 37))), some (.ref x), some (.ref ((x + 261))), some (.ref ((x + 273))), some (.ref ((x + 274))), some (.int (nI i)), some (.int 1), some (.int r3), l8]) dL_law_2758 (by decide) rfl ?_
      refine zr_aload_n dL_law_2760 rfl ?_
      refine zr_pVi (rest := []) dL_law_2761 vL_173 (qX10_thrown hX h8) h8 (by omega) (by omega) (by omega) rfl rfl (Nat.le_of_ble_eq_true rfl) (by decide) rfl ?_
      refine zr_eqi (x' := 1) e8 ?_
      refine zr_iload dL_law_2764 rfl ?_
      refine zr_icmp_eq (tgt := 2771) dL_law_2766 (by decide) (fun c_2766 => ?_) (fun c_2766 => absurd (by decide) c_2766)
      refine zr_iload dL_law_2771 rfl ?_
      refine zr_if_ne (tgt := 2788) dL_law_2773 (by decide) (fun c_2773 => ?_) (fun c_2773 => absurd c_2773 (by decide))
      refine zr_goto (tgt := 2861) dL_law_2788 (by decide) ?_
      exact zr_less (by omega) (by omega) (kk u _ _ _ _ hI F3 ko2)
    · skip
      cases hk

set_option maxHeartbeats 400000 in
set_option maxRecDepth 100000 in
theorem blk_restoreSnapshot {X : zX} (hX : X.1.stackTraces = false) {Q : zO → zS → Prop} {σ : zS} {x i bc bs : Nat} {l6 l7 l8 : Option Value} {f : Nat → Int64} (hQ : ∀ i j : Nat, i < 7 → j < 7 → zQ X i = zQ X j → i = j) (hi : i + 4 ≤ zsL X) (hs : zsL X < 2 ^ 31) (hI0 : zIv x (x + 261) 0 σ ∨ ∃ cd, zIv x (x + 261) cd σ) (hN : σ.2 = none) (ho : σ.1 (x + 273) = .inl (3, 1, .inr (.inl f))) (kk : ∀ (s : zS) (cd : Int32) (f2 : Nat → Int64) (m6 m7 : Option Value), zIv x (x + 261) cd s → zFr σ s (fun q => x ≤ q ∧ q < x + 274) → s.1 (x + 273) = .inl (3, 1, .inr (.inl f2)) → zW X mL_law 12 bc bs Q 2861 [some (.ref (zQ X 37)), some (.ref x), some (.ref (x + 261)), some (.ref (x + 273)), some (.ref (x + 274)), some (.int (nI i)), m6, m7, l8] [] s) : zW X mL_law 12 (bc + 1) (bs + 6) Q 2817 [some (.ref (zQ X 37)), some (.ref x), some (.ref (x + 261)), some (.ref (x + 273)), some (.ref (x + 274)), some (.int (nI i)), l6, l7, l8] [] σ := by
  have hs2 : zsL X = X.2.2.2.2.2.1 := rfl
  obtain ⟨cd, hI⟩ : ∃ cd, zIv x (x + 261) cd σ := hI0.elim (fun h => ⟨_, h⟩) id
  obtain ⟨fs, hx⟩ := hI.ox
  obtain ⟨Fo, hyo, -⟩ := hI.oy
  obtain ⟨⟨A, S, m, U, n, T, ll, ln, hs1, kf, ld, dt, dc⟩, hK, hM, hL⟩ := hI
  refine zr_aload_n dL_law_2817 rfl ?_
  refine zr_aload_n dL_law_2818 rfl ?_
  have hsm := sem_restoreSnapshot hX hK hM hL hN hQ
  rcases hsm with ⟨v, d1, mc, ms, Qs, d9, m1, m6, hc, hr⟩ | ⟨E, k, d1, mc, ms, Qs, hk, d9, m1, m6, hc, hr⟩
  · refine zr_callH (rest := []) dL_law_2819 vL_334 (wOK_restoreSnapshot hX hc hx (fun s2 hq => zFr.get (hr s2 hq).1 (by unfold zXr; omega) ho)) (by omega) (by omega) (by omega) rfl rfl (Nat.le_of_ble_eq_true rfl) rfl (fun v2 s1 h_ => ?_) (fun E1 s1 h_ => by obtain ⟨r, e, -⟩ := h_; cases e)
    obtain ⟨r, e, e2, s2, hq, et⟩ := h_
    cases e
    rw [e2]
    have F0 := (hr _ hq).1
    have hy0 := zFr.get F0 (by unfold zXr; omega) hyo
    have Ft : zFr s2 s1 (zOu x) := by rw [et]; exact ⟨rfl, fun a ha => zup_ne _ _ (fun z => ha (by unfold zOu; omega))⟩
    obtain ⟨d2, d29, hr2⟩ := (hr _ hq).2 s1 Ft
    have hy := zFr.get Ft (by unfold zOu; omega) hy0
    have F1 : zFr σ s1 (fun q => x ≤ q ∧ q < x + 274) := zFr.tr (F0.w (fun q hq => by unfold zXr at hq; omega)) (P := fun q => x ≤ q ∧ q < x + 274) (show zFr s2 s1 (fun q => x ≤ q ∧ q < x + 274) from by rw [et]; exact ⟨rfl, fun a ha => zup_ne _ _ (fun z => ha (by omega))⟩) (fun q hq => hq)
    have ko : s1.1 (x + 273) = .inl (3, 1, .inr (.inl (vp_updL f 0 v.toInt64))) := by rw [et]; exact zup_at _ _ _
    refine zr_istore (ls' := [some (.ref ((zQ X 37))), some (.ref x), some (.ref ((x + 261))), some (.ref ((x + 273))), some (.ref ((x + 274))), some (.int (nI i)), some (.int 0), l7, l8]) dL_law_2822 (by decide) rfl ?_
    refine zr_aload_n dL_law_2824 rfl ?_
    refine zr_callVi (rest := []) dL_law_2825 vL_336 hr2 hy (by omega) (by omega) (by omega) rfl rfl (Nat.le_of_ble_eq_true rfl) (by decide) rfl (fun r3 u h3 => ?_)
    obtain ⟨er, F2, hI⟩ := h3
    rw [er]
    have F3 : zFr σ u (fun q => x ≤ q ∧ q < x + 274) := zFr.tr F1 F2 (fun q hq => by unfold zMr at hq; omega)
    have ko2 := zFr.get F2 (by unfold zMr; omega) ko
    obtain ⟨F8, h8, e8⟩ := hI.oy
    refine zr_istore (ls' := [some (.ref ((zQ X 37))), some (.ref x), some (.ref ((x + 261))), some (.ref ((x + 273))), some (.ref ((x + 274))), some (.int (nI i)), some (.int 0), some (.int v), l8]) dL_law_2828 (by decide) rfl ?_
    refine zr_aload_n dL_law_2830 rfl ?_
    refine zr_pVi (rest := []) dL_law_2831 vL_173 (qX10_thrown hX h8) h8 (by omega) (by omega) (by omega) rfl rfl (Nat.le_of_ble_eq_true rfl) (by decide) rfl ?_
    refine zr_eqi (x' := 0) e8 ?_
    refine zr_iload dL_law_2834 rfl ?_
    refine zr_icmp_eq (tgt := 2841) dL_law_2836 (by decide) (fun c_2836 => ?_) (fun c_2836 => absurd (by decide) c_2836)
    refine zr_iload dL_law_2841 rfl ?_
    refine zr_if_ne (tgt := 2858) dL_law_2843 (by decide) (fun c_2843 => absurd (by decide) c_2843) (fun c_2843 => ?_)
    refine zr_aload_n dL_law_2846 rfl ?_
    refine zr_iconst (v := 0) dL_law_2847 (by decide) ?_
    refine zr_laload dL_law_2848 ko2 (vp_in_nI (n := 0) (by omega) (by omega)) ?_
    rw [show (0 : Int32).toNatClampNeg = 0 from by decide]
    refine zr_eql (x' := v.toInt64) (by unfold vp_updL; rw [if_pos rfl]) ?_
    refine zr_iload dL_law_2849 rfl ?_
    refine zr_i2l dL_law_2851 ?_
    refine zr_lcmp dL_law_2852 ?_
    refine zr_eqi (x' := 0) (lcmp_self _) ?_
    refine zr_if_eq (tgt := 2858) dL_law_2853 (by decide) (fun c_2853 => ?_) (fun c_2853 => absurd (by decide) c_2853)
    refine zr_goto (tgt := 2861) dL_law_2858 (by decide) ?_
    exact zr_less (by omega) (by omega) (kk u _ _ _ _ hI F3 ko2)
  · skip
    rcases List.mem_cons.mp hk with ek | hk
    · cases ek
      refine zr_callH (rest := []) dL_law_2819 vL_334 (wN1_restoreSnapshot hX hc hx) (by omega) (by omega) (by omega) rfl rfl (Nat.le_of_ble_eq_true rfl) rfl (fun v2 s1 h_ => ?_) (fun E1 s1 h_ => by obtain ⟨r, e, -⟩ := h_; cases e)
      obtain ⟨r, e, e2, hq⟩ := h_
      cases e
      rw [e2]
      have F0 := (hr _ hq).1
      have hy0 := zFr.get F0 (by unfold zXr; omega) hyo
      obtain ⟨d2, d29, hr2⟩ := (hr _ hq).2 s1 zFr.rf
      have hy := hy0
      have F1 : zFr σ s1 (fun q => x ≤ q ∧ q < x + 274) := F0.w (fun q hq => by unfold zXr at hq; omega)
      have ko := zFr.get F0 (by unfold zXr; omega) ho
      refine zr_istore (ls' := [some (.ref ((zQ X 37))), some (.ref x), some (.ref ((x + 261))), some (.ref ((x + 273))), some (.ref ((x + 274))), some (.int (nI i)), some (.int 1), l7, l8]) dL_law_2822 (by decide) rfl ?_
      refine zr_aload_n dL_law_2824 rfl ?_
      refine zr_callVi (rest := []) dL_law_2825 vL_336 hr2 hy (by omega) (by omega) (by omega) rfl rfl (Nat.le_of_ble_eq_true rfl) (by decide) rfl (fun r3 u h3 => ?_)
      obtain ⟨er, F2, hI⟩ := h3
      have F3 : zFr σ u (fun q => x ≤ q ∧ q < x + 274) := zFr.tr F1 F2 (fun q hq => by unfold zMr at hq; omega)
      have ko2 := zFr.get F2 (by unfold zMr; omega) ko
      obtain ⟨F8, h8, e8⟩ := hI.oy
      refine zr_istore (ls' := [some (.ref ((zQ X 37))), some (.ref x), some (.ref ((x + 261))), some (.ref ((x + 273))), some (.ref ((x + 274))), some (.int (nI i)), some (.int 1), some (.int r3), l8]) dL_law_2828 (by decide) rfl ?_
      refine zr_aload_n dL_law_2830 rfl ?_
      refine zr_pVi (rest := []) dL_law_2831 vL_173 (qX10_thrown hX h8) h8 (by omega) (by omega) (by omega) rfl rfl (Nat.le_of_ble_eq_true rfl) (by decide) rfl ?_
      refine zr_eqi (x' := 1) e8 ?_
      refine zr_iload dL_law_2834 rfl ?_
      refine zr_icmp_eq (tgt := 2841) dL_law_2836 (by decide) (fun c_2836 => ?_) (fun c_2836 => absurd (by decide) c_2836)
      refine zr_iload dL_law_2841 rfl ?_
      refine zr_if_ne (tgt := 2858) dL_law_2843 (by decide) (fun c_2843 => ?_) (fun c_2843 => absurd c_2843 (by decide))
      refine zr_goto (tgt := 2861) dL_law_2858 (by decide) ?_
      exact zr_less (by omega) (by omega) (kk u _ _ _ _ hI F3 ko2)
    · skip
      cases hk

