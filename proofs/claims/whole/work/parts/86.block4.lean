/-! the block of meanLength -/
set_option maxHeartbeats 400000 in
set_option maxRecDepth 100000 in
theorem blk_meanLength {X : zX} (hX : X.1.stackTraces = false) {Q : zO → zS → Prop} {σ : zS} {x i bc bs : Nat} {l6 l7 l8 : Option Value} {f : Nat → UInt64} (hQ : ∀ i j : Nat, i < 7 → j < 7 → zQ X i = zQ X j → i = j) (hi : i + 4 ≤ zsL X) (hs : zsL X < 2 ^ 31) (hI0 : zIv x (x + 261) 0 σ ∨ ∃ cd, zIv x (x + 261) cd σ) (hN : σ.2 = none) (ho : σ.1 (x + 274) = .inl (4, 1, .inr (.inr (.inr (.inl f))))) (kk : ∀ (s : zS) (cd : Int32) (f2 : Nat → UInt64) (m6 m7 m8 : Option Value), zIv x (x + 261) cd s → zFr σ s (fun q => (x ≤ q ∧ q < x + 273) ∨ q = x + 274) → s.1 (x + 274) = .inl (4, 1, .inr (.inr (.inr (.inl f2)))) → zW X mL_law 12 bc bs Q 2861 [some (.ref (zQ X 37)), some (.ref x), some (.ref (x + 261)), some (.ref (x + 273)), some (.ref (x + 274)), some (.int (nI i)), m6, m7, m8] [] s) : zW X mL_law 12 (bc + 1) (bs + 6) Q 2157 [some (.ref (zQ X 37)), some (.ref x), some (.ref (x + 261)), some (.ref (x + 273)), some (.ref (x + 274)), some (.int (nI i)), l6, l7, l8] [] σ := by
  have hs2 : zsL X = X.2.2.2.2.2.1 := rfl
  obtain ⟨cd, hI⟩ : ∃ cd, zIv x (x + 261) cd σ := hI0.elim (fun h => ⟨_, h⟩) id
  obtain ⟨fs, hx⟩ := hI.ox
  obtain ⟨Fo, hyo, -⟩ := hI.oy
  obtain ⟨⟨A, S, m, U, n, T, ll, ln, hs1, kf, ld, dt, dc⟩, hK, hM, hL⟩ := hI
  refine zr_aload_n dL_law_2157 rfl ?_
  refine zr_aload dL_law_2158 rfl ?_
  have hsm := sem_meanLength hX hK hM hL hN hQ
  rcases hsm with ⟨v, d1, mc, ms, Qs, d9, m1, m6, hc, hr⟩ | ⟨E, k, d1, mc, ms, Qs, hk, d9, m1, m6, hc, hr⟩
  · refine zr_callH (rest := []) dL_law_2160 vL_283 (wOK_meanLength hX hc hx (fun s2 hq => zFr.get (hr s2 hq).1 (by unfold zXr; omega) ho)) (by omega) (by omega) (by omega) rfl rfl (Nat.le_of_ble_eq_true rfl) rfl (fun v2 s1 h_ => ?_) (fun E1 s1 h_ => by obtain ⟨r, e, -⟩ := h_; cases e)
    obtain ⟨r, e, e2, s2, hq, et⟩ := h_
    cases e
    rw [e2]
    have F0 := (hr _ hq).1
    have hy0 := zFr.get F0 (by unfold zXr; omega) hyo
    have Ft : zFr s2 s1 (zOu x) := by rw [et]; exact ⟨rfl, fun a ha => zup_ne _ _ (fun z => ha (by unfold zOu; omega))⟩
    obtain ⟨d2, d29, hr2⟩ := (hr _ hq).2 s1 Ft
    have hy := zFr.get Ft (by unfold zOu; omega) hy0
    have F1 : zFr σ s1 (fun q => (x ≤ q ∧ q < x + 273) ∨ q = x + 274) := zFr.tr (F0.w (fun q hq => by unfold zXr at hq; omega)) (P := fun q => (x ≤ q ∧ q < x + 273) ∨ q = x + 274) (show zFr s2 s1 (fun q => (x ≤ q ∧ q < x + 273) ∨ q = x + 274) from by rw [et]; exact ⟨rfl, fun a ha => zup_ne _ _ (fun z => ha (by omega))⟩) (fun q hq => hq)
    have ko : s1.1 (x + 274) = .inl (4, 1, .inr (.inr (.inr (.inl (vf_upd f 0 v))))) := by rw [et]; exact zup_at _ _ _
    refine zr_istore (ls' := [some (.ref ((zQ X 37))), some (.ref x), some (.ref ((x + 261))), some (.ref ((x + 273))), some (.ref ((x + 274))), some (.int (nI i)), some (.int 0), l7, l8]) dL_law_2163 (by decide) rfl ?_
    refine zr_aload_n dL_law_2165 rfl ?_
    refine zr_callVd (rest := []) dL_law_2166 vL_286 hr2 hy (by omega) (by omega) (by omega) rfl rfl (Nat.le_of_ble_eq_true rfl) (by decide) rfl (fun r3 u h3 => ?_)
    obtain ⟨er, F2, hI⟩ := h3
    rw [er]
    have F3 : zFr σ u (fun q => (x ≤ q ∧ q < x + 273) ∨ q = x + 274) := zFr.tr F1 F2 (fun q hq => by unfold zMr at hq; omega)
    have ko2 := zFr.get F2 (by unfold zMr; omega) ko
    obtain ⟨F8, h8, e8⟩ := hI.oy
    refine zr_dstore (ls' := [some (.ref ((zQ X 37))), some (.ref x), some (.ref ((x + 261))), some (.ref ((x + 273))), some (.ref ((x + 274))), some (.int (nI i)), some (.int 0), some (.double v), none]) dL_law_2169 (by decide) rfl ?_
    refine zr_aload_n dL_law_2171 rfl ?_
    refine zr_pVi (rest := []) dL_law_2172 vL_173 (qX10_thrown hX h8) h8 (by omega) (by omega) (by omega) rfl rfl (Nat.le_of_ble_eq_true rfl) (by decide) rfl ?_
    refine zr_eqi (x' := 0) e8 ?_
    refine zr_iload dL_law_2175 rfl ?_
    refine zr_icmp_eq (tgt := 2182) dL_law_2177 (by decide) (fun c_2177 => ?_) (fun c_2177 => absurd (by decide) c_2177)
    refine zr_iload dL_law_2182 rfl ?_
    refine zr_if_ne (tgt := 2219) dL_law_2184 (by decide) (fun c_2184 => absurd (by decide) c_2184) (fun c_2184 => ?_)
    refine zr_aload dL_law_2187 rfl ?_
    refine zr_iconst (v := 0) dL_law_2189 (by decide) ?_
    refine zr_daload dL_law_2190 ko2 (vp_in_nI (n := 0) (by omega) (by omega)) ?_
    rw [show (0 : Int32).toNatClampNeg = 0 from by decide]
    refine zr_eqd (x' := v) (by unfold vf_upd; rw [if_pos rfl]) ?_
    refine zr_dload dL_law_2191 rfl ?_
    refine zr_dcmp dL_law_2193 ?_
    refine zr_if_eq (tgt := 2219) dL_law_2194 (by decide) (fun c_2194 => ?_) (fun c_2194 => ?_)
    · refine zr_goto (tgt := 2861) dL_law_2219 (by decide) ?_
      exact zr_less (by omega) (by omega) (kk u _ _ _ _ _ hI F3 ko2)
    · refine zr_aload dL_law_2197 rfl ?_
      refine zr_iconst (v := 0) dL_law_2199 (by decide) ?_
      refine zr_daload dL_law_2200 ko2 (vp_in_nI (n := 0) (by omega) (by omega)) ?_
      rw [show (0 : Int32).toNatClampNeg = 0 from by decide]
      refine zr_eqd (x' := v) (by unfold vf_upd; rw [if_pos rfl]) ?_
      refine zr_aload dL_law_2201 rfl ?_
      refine zr_iconst (v := 0) dL_law_2203 (by decide) ?_
      refine zr_daload dL_law_2204 ko2 (vp_in_nI (n := 0) (by omega) (by omega)) ?_
      rw [show (0 : Int32).toNatClampNeg = 0 from by decide]
      refine zr_eqd (x' := v) (by unfold vf_upd; rw [if_pos rfl]) ?_
      refine zr_dcmp dL_law_2205 ?_
      refine zr_if_eq (tgt := 2217) dL_law_2206 (by decide) (fun c_2206 => absurd c_2206 (c_2194)) (fun c_2206 => ?_)
      refine zr_dload dL_law_2209 rfl ?_
      refine zr_dload dL_law_2211 rfl ?_
      refine zr_dcmp dL_law_2213 ?_
      refine zr_if_ne (tgt := 2219) dL_law_2214 (by decide) (fun c_2214 => ?_) (fun c_2214 => absurd c_2214 (c_2194))
      refine zr_goto (tgt := 2861) dL_law_2219 (by decide) ?_
      exact zr_less (by omega) (by omega) (kk u _ _ _ _ _ hI F3 ko2)
  · skip
    rcases List.mem_cons.mp hk with ek | hk
    · cases ek
      refine zr_callH (rest := []) dL_law_2160 vL_283 (wN1_meanLength hX hc hx) (by omega) (by omega) (by omega) rfl rfl (Nat.le_of_ble_eq_true rfl) rfl (fun v2 s1 h_ => ?_) (fun E1 s1 h_ => by obtain ⟨r, e, -⟩ := h_; cases e)
      obtain ⟨r, e, e2, hq⟩ := h_
      cases e
      rw [e2]
      have F0 := (hr _ hq).1
      have hy0 := zFr.get F0 (by unfold zXr; omega) hyo
      obtain ⟨d2, d29, hr2⟩ := (hr _ hq).2 s1 zFr.rf
      have hy := hy0
      have F1 : zFr σ s1 (fun q => (x ≤ q ∧ q < x + 273) ∨ q = x + 274) := F0.w (fun q hq => by unfold zXr at hq; omega)
      have ko := zFr.get F0 (by unfold zXr; omega) ho
      refine zr_istore (ls' := [some (.ref ((zQ X 37))), some (.ref x), some (.ref ((x + 261))), some (.ref ((x + 273))), some (.ref ((x + 274))), some (.int (nI i)), some (.int 1), l7, l8]) dL_law_2163 (by decide) rfl ?_
      refine zr_aload_n dL_law_2165 rfl ?_
      refine zr_callVd (rest := []) dL_law_2166 vL_286 hr2 hy (by omega) (by omega) (by omega) rfl rfl (Nat.le_of_ble_eq_true rfl) (by decide) rfl (fun r3 u h3 => ?_)
      obtain ⟨er, F2, hI⟩ := h3
      have F3 : zFr σ u (fun q => (x ≤ q ∧ q < x + 273) ∨ q = x + 274) := zFr.tr F1 F2 (fun q hq => by unfold zMr at hq; omega)
      have ko2 := zFr.get F2 (by unfold zMr; omega) ko
      obtain ⟨F8, h8, e8⟩ := hI.oy
      refine zr_dstore (ls' := [some (.ref ((zQ X 37))), some (.ref x), some (.ref ((x + 261))), some (.ref ((x + 273))), some (.ref ((x + 274))), some (.int (nI i)), some (.int 1), some (.double r3), none]) dL_law_2169 (by decide) rfl ?_
      refine zr_aload_n dL_law_2171 rfl ?_
      refine zr_pVi (rest := []) dL_law_2172 vL_173 (qX10_thrown hX h8) h8 (by omega) (by omega) (by omega) rfl rfl (Nat.le_of_ble_eq_true rfl) (by decide) rfl ?_
      refine zr_eqi (x' := 1) e8 ?_
      refine zr_iload dL_law_2175 rfl ?_
      refine zr_icmp_eq (tgt := 2182) dL_law_2177 (by decide) (fun c_2177 => ?_) (fun c_2177 => absurd (by decide) c_2177)
      refine zr_iload dL_law_2182 rfl ?_
      refine zr_if_ne (tgt := 2219) dL_law_2184 (by decide) (fun c_2184 => ?_) (fun c_2184 => absurd c_2184 (by decide))
      refine zr_goto (tgt := 2861) dL_law_2219 (by decide) ?_
      exact zr_less (by omega) (by omega) (kk u _ _ _ _ _ hI F3 ko2)
    · skip
      cases hk

