/-! the block of freedShare -/
set_option maxHeartbeats 400000 in
set_option maxRecDepth 100000 in
theorem blk_freedShare {X : zX} (hX : X.1.stackTraces = false) {Q : zO → zS → Prop} {σ : zS} {x i bc bs : Nat} {l6 l7 l8 : Option Value} {f : Nat → UInt64} (hQ : ∀ i j : Nat, i < 7 → j < 7 → zQ X i = zQ X j → i = j) (hi : i + 4 ≤ zsL X) (hs : zsL X < 2 ^ 31) (hI0 : zIv x (x + 261) 0 σ ∨ ∃ cd, zIv x (x + 261) cd σ) (hN : σ.2 = none) (ho : σ.1 (x + 274) = .inl (4, 1, .inr (.inr (.inr (.inl f))))) (kk : ∀ (s : zS) (cd : Int32) (f2 : Nat → UInt64) (m6 m7 : Option Value), zIv x (x + 261) cd s → zFr σ s (fun q => (x ≤ q ∧ q < x + 273) ∨ q = x + 274) → s.1 (x + 274) = .inl (4, 1, .inr (.inr (.inr (.inl f2)))) → zW X mL_law 12 bc bs Q 2861 [some (.ref (zQ X 37)), some (.ref x), some (.ref (x + 261)), some (.ref (x + 273)), some (.ref (x + 274)), some (.int (nI i)), m6, m7, l8] [] s) : zW X mL_law 12 (bc + 1) (bs + 6) Q 2222 [some (.ref (zQ X 37)), some (.ref x), some (.ref (x + 261)), some (.ref (x + 273)), some (.ref (x + 274)), some (.int (nI i)), l6, l7, l8] [] σ := by
  have hs2 : zsL X = X.2.2.2.2.2.1 := rfl
  obtain ⟨cd, hI⟩ : ∃ cd, zIv x (x + 261) cd σ := hI0.elim (fun h => ⟨_, h⟩) id
  obtain ⟨fs, hx⟩ := hI.ox
  obtain ⟨Fo, hyo, -⟩ := hI.oy
  obtain ⟨⟨A, S, m, U, n, T, ll, ln, hs1, kf, ld, dt, dc⟩, hK, hM, hL⟩ := hI
  refine zr_aload_n dL_law_2222 rfl ?_
  refine zr_aload dL_law_2223 rfl ?_
  have hsm := sem_freedShare hX hK hM hL hN hQ
  rcases hsm with ⟨v, d1, mc, ms, Qs, hv, d9, m1, m6, hc, hr⟩ | ⟨E, k, d1, mc, ms, Qs, hk, d9, m1, m6, hc, hr⟩
  · refine zr_callH (rest := []) dL_law_2225 vL_287 (wOK_freedShare hX hc hx hv.1 (fun s2 hq => zFr.get (hr s2 hq).1 (by unfold zXr; omega) ho)) (by omega) (by omega) (by omega) rfl rfl (Nat.le_of_ble_eq_true rfl) rfl (fun v2 s1 h_ => ?_) (fun E1 s1 h_ => by obtain ⟨r, e, -⟩ := h_; cases e)
    obtain ⟨r, e, e2, s2, hq, et⟩ := h_
    cases e
    rw [e2]
    have F0 := (hr _ hq).1
    have hy0 := zFr.get F0 (by unfold zXr; omega) hyo
    have Ft : zFr s2 s1 (zOu x) := by rw [et]; exact ⟨rfl, fun a ha => zup_ne _ _ (fun z => ha (by unfold zOu; omega))⟩
    obtain ⟨d2, d29, hr2⟩ := (hr _ hq).2 s1 Ft
    have hy := zFr.get Ft (by unfold zOu; omega) hy0
    have F1 : zFr σ s1 (fun q => (x ≤ q ∧ q < x + 273) ∨ q = x + 274) := zFr.tr (F0.w (fun q hq => by unfold zXr at hq; omega)) (P := fun q => (x ≤ q ∧ q < x + 273) ∨ q = x + 274) (show zFr s2 s1 (fun q => (x ≤ q ∧ q < x + 273) ∨ q = x + 274) from by rw [et]; exact ⟨rfl, fun a ha => zup_ne _ _ (fun z => ha (by omega))⟩) (fun q hq => hq)
    have ko : s1.1 (x + 274) = .inl (4, 1, .inr (.inr (.inr (.inl (vf_upd f 0 (FP.f2d v)))))) := by rw [et]; exact zup_at _ _ _
    refine zr_istore (ls' := [some (.ref ((zQ X 37))), some (.ref x), some (.ref ((x + 261))), some (.ref ((x + 273))), some (.ref ((x + 274))), some (.int (nI i)), some (.int 0), l7, l8]) dL_law_2228 (by decide) rfl ?_
    refine zr_aload_n dL_law_2230 rfl ?_
    refine zr_callVf (rest := []) dL_law_2231 vL_289 hr2 hy (by omega) (by omega) (by omega) rfl rfl (Nat.le_of_ble_eq_true rfl) (by decide) rfl (fun r3 u h3 => ?_)
    obtain ⟨er, F2, hI⟩ := h3
    rw [er]
    have F3 : zFr σ u (fun q => (x ≤ q ∧ q < x + 273) ∨ q = x + 274) := zFr.tr F1 F2 (fun q hq => by unfold zMr at hq; omega)
    have ko2 := zFr.get F2 (by unfold zMr; omega) ko
    obtain ⟨F8, h8, e8⟩ := hI.oy
    refine zr_fstore (ls' := [some (.ref ((zQ X 37))), some (.ref x), some (.ref ((x + 261))), some (.ref ((x + 273))), some (.ref ((x + 274))), some (.int (nI i)), some (.int 0), some (.float v), l8]) dL_law_2234 (by decide) rfl ?_
    refine zr_aload_n dL_law_2236 rfl ?_
    refine zr_pVi (rest := []) dL_law_2237 vL_173 (qX10_thrown hX h8) h8 (by omega) (by omega) (by omega) rfl rfl (Nat.le_of_ble_eq_true rfl) (by decide) rfl ?_
    refine zr_eqi (x' := 0) e8 ?_
    refine zr_iload dL_law_2240 rfl ?_
    refine zr_icmp_eq (tgt := 2247) dL_law_2242 (by decide) (fun c_2242 => ?_) (fun c_2242 => absurd (by decide) c_2242)
    refine zr_iload dL_law_2247 rfl ?_
    refine zr_if_ne (tgt := 2285) dL_law_2249 (by decide) (fun c_2249 => absurd (by decide) c_2249) (fun c_2249 => ?_)
    refine zr_aload dL_law_2252 rfl ?_
    refine zr_iconst (v := 0) dL_law_2254 (by decide) ?_
    refine zr_daload dL_law_2255 ko2 (vp_in_nI (n := 0) (by omega) (by omega)) ?_
    rw [show (0 : Int32).toNatClampNeg = 0 from by decide]
    refine zr_eqd (x' := (FP.f2d v)) (by unfold vf_upd; rw [if_pos rfl]) ?_
    refine zr_fload dL_law_2256 rfl ?_
    refine zr_f2d dL_law_2258 (hv.1) ?_
    refine zr_dcmp dL_law_2259 ?_
    refine zr_if_eq (tgt := 2285) dL_law_2260 (by decide) (fun c_2260 => ?_) (fun c_2260 => absurd (hv.2) c_2260)
    refine zr_goto (tgt := 2861) dL_law_2285 (by decide) ?_
    exact zr_less (by omega) (by omega) (kk u _ _ _ _ hI F3 ko2)
  · skip
    rcases List.mem_cons.mp hk with ek | hk
    · cases ek
      refine zr_callH (rest := []) dL_law_2225 vL_287 (wN1_freedShare hX hc hx) (by omega) (by omega) (by omega) rfl rfl (Nat.le_of_ble_eq_true rfl) rfl (fun v2 s1 h_ => ?_) (fun E1 s1 h_ => by obtain ⟨r, e, -⟩ := h_; cases e)
      obtain ⟨r, e, e2, hq⟩ := h_
      cases e
      rw [e2]
      have F0 := (hr _ hq).1
      have hy0 := zFr.get F0 (by unfold zXr; omega) hyo
      obtain ⟨d2, d29, hr2⟩ := (hr _ hq).2 s1 zFr.rf
      have hy := hy0
      have F1 : zFr σ s1 (fun q => (x ≤ q ∧ q < x + 273) ∨ q = x + 274) := F0.w (fun q hq => by unfold zXr at hq; omega)
      have ko := zFr.get F0 (by unfold zXr; omega) ho
      refine zr_istore (ls' := [some (.ref ((zQ X 37))), some (.ref x), some (.ref ((x + 261))), some (.ref ((x + 273))), some (.ref ((x + 274))), some (.int (nI i)), some (.int 1), l7, l8]) dL_law_2228 (by decide) rfl ?_
      refine zr_aload_n dL_law_2230 rfl ?_
      refine zr_callVf (rest := []) dL_law_2231 vL_289 hr2 hy (by omega) (by omega) (by omega) rfl rfl (Nat.le_of_ble_eq_true rfl) (by decide) rfl (fun r3 u h3 => ?_)
      obtain ⟨er, F2, hI⟩ := h3
      have F3 : zFr σ u (fun q => (x ≤ q ∧ q < x + 273) ∨ q = x + 274) := zFr.tr F1 F2 (fun q hq => by unfold zMr at hq; omega)
      have ko2 := zFr.get F2 (by unfold zMr; omega) ko
      obtain ⟨F8, h8, e8⟩ := hI.oy
      refine zr_fstore (ls' := [some (.ref ((zQ X 37))), some (.ref x), some (.ref ((x + 261))), some (.ref ((x + 273))), some (.ref ((x + 274))), some (.int (nI i)), some (.int 1), some (.float r3), l8]) dL_law_2234 (by decide) rfl ?_
      refine zr_aload_n dL_law_2236 rfl ?_
      refine zr_pVi (rest := []) dL_law_2237 vL_173 (qX10_thrown hX h8) h8 (by omega) (by omega) (by omega) rfl rfl (Nat.le_of_ble_eq_true rfl) (by decide) rfl ?_
      refine zr_eqi (x' := 1) e8 ?_
      refine zr_iload dL_law_2240 rfl ?_
      refine zr_icmp_eq (tgt := 2247) dL_law_2242 (by decide) (fun c_2242 => ?_) (fun c_2242 => absurd (by decide) c_2242)
      refine zr_iload dL_law_2247 rfl ?_
      refine zr_if_ne (tgt := 2285) dL_law_2249 (by decide) (fun c_2249 => ?_) (fun c_2249 => absurd c_2249 (by decide))
      refine zr_goto (tgt := 2861) dL_law_2285 (by decide) ?_
      exact zr_less (by omega) (by omega) (kk u _ _ _ _ hI F3 ko2)
    · skip
      cases hk

