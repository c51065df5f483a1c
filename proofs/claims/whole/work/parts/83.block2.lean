/-! the blocks that call both directly -/
set_option maxHeartbeats 400000 in
set_option maxRecDepth 100000 in
theorem blk_caseCount {X : zX} (hX : X.1.stackTraces = false) {Q : zO → zS → Prop} {σ : zS} {x i bc bs : Nat} {l6 l7 l8 : Option Value} {f : Nat → Int64} (hQ : ∀ i j : Nat, i < 7 → j < 7 → zQ X i = zQ X j → i = j) (hi : i + 4 ≤ zsL X) (hs : zsL X < 2 ^ 31) (hI0 : zIv x (x + 261) 0 σ ∨ ∃ cd, zIv x (x + 261) cd σ) (hN : σ.2 = none) (ho : σ.1 (x + 273) = .inl (3, 1, .inr (.inl f))) (kk : ∀ (s : zS) (cd : Int32) (f2 : Nat → Int64) (m6 m7 : Option Value), zIv x (x + 261) cd s → zFr σ s (fun q => x ≤ q ∧ q < x + 274) → s.1 (x + 273) = .inl (3, 1, .inr (.inl f2)) → zW X mL_law 12 bc bs Q 2861 [some (.ref (zQ X 37)), some (.ref x), some (.ref (x + 261)), some (.ref (x + 273)), some (.ref (x + 274)), some (.int (nI i)), m6, m7, l8] [] s) : zW X mL_law 12 (bc + 1) (bs + 6) Q 542 [some (.ref (zQ X 37)), some (.ref x), some (.ref (x + 261)), some (.ref (x + 273)), some (.ref (x + 274)), some (.int (nI i)), l6, l7, l8] [] σ := by
  obtain ⟨cd, hI⟩ : ∃ cd, zIv x (x + 261) cd σ := hI0.elim (fun h => ⟨_, h⟩) id
  obtain ⟨fs, hx⟩ := hI.ox
  obtain ⟨Fo, hyo, -⟩ := hI.oy
  obtain ⟨⟨A, S, m, U, n, T, ll, ln, hs1, kf, ld, dt, dc⟩, hK, hM, hL⟩ := hI
  refine zr_aload_n dL_law_542 rfl ?_
  have hsm := sem_caseCount hX hK hM hL hN hQ
  rcases hsm with ⟨v, d1, mc, ms, Qs, d9, m1, m6, hc, hr⟩ | ⟨E, k, d1, mc, ms, Qs, hk, -⟩
  rotate_left
  · cases hk
  refine zr_callVi (rest := []) dL_law_543 vL_190 hc hx (by omega) (by omega) (by omega) rfl rfl (Nat.le_of_ble_eq_true rfl) (by decide) rfl (fun r1 s1 h1 => ?_)
  obtain ⟨e1, hq⟩ := h1
  rw [e1]
  have F0 := (hr _ hq).1
  have hy := zFr.get F0 (by unfold zXr; omega) hyo
  obtain ⟨d2, d29, hr2⟩ := (hr _ hq).2 s1 zFr.rf
  have F1 : zFr σ s1 (fun q => x ≤ q ∧ q < x + 274) := F0.w (fun q hq => by unfold zXr at hq; omega)
  have ko := zFr.get F0 (by unfold zXr; omega) ho
  refine zr_aload_n dL_law_546 rfl ?_
  refine zr_callVi (rest := [.int v]) dL_law_547 vL_193 hr2 hy (by omega) (by omega) (by omega) rfl rfl (Nat.le_of_ble_eq_true rfl) (by decide) rfl (fun r3 u h3 => ?_)
  obtain ⟨er, F2, hI⟩ := h3
  rw [er]
  have F3 : zFr σ u (fun q => x ≤ q ∧ q < x + 274) := zFr.tr F1 F2 (fun q hq => by unfold zMr at hq; omega)
  have ko2 := zFr.get F2 (by unfold zMr; omega) ko
  refine zr_icmp_eq (tgt := 2861) dL_law_550 (by decide) (fun c_550 => ?_) (fun c_550 => absurd (rfl) c_550)
  exact zr_less (by omega) (by omega) (kk u _ _ _ _ hI F3 ko2)

set_option maxHeartbeats 400000 in
set_option maxRecDepth 100000 in
theorem blk_precedentCount {X : zX} (hX : X.1.stackTraces = false) {Q : zO → zS → Prop} {σ : zS} {x i bc bs : Nat} {l6 l7 l8 : Option Value} {f : Nat → Int64} (hQ : ∀ i j : Nat, i < 7 → j < 7 → zQ X i = zQ X j → i = j) (hi : i + 4 ≤ zsL X) (hs : zsL X < 2 ^ 31) (hI0 : zIv x (x + 261) 0 σ ∨ ∃ cd, zIv x (x + 261) cd σ) (hN : σ.2 = none) (ho : σ.1 (x + 273) = .inl (3, 1, .inr (.inl f))) (kk : ∀ (s : zS) (cd : Int32) (f2 : Nat → Int64) (m6 m7 : Option Value), zIv x (x + 261) cd s → zFr σ s (fun q => x ≤ q ∧ q < x + 274) → s.1 (x + 273) = .inl (3, 1, .inr (.inl f2)) → zW X mL_law 12 bc bs Q 2861 [some (.ref (zQ X 37)), some (.ref x), some (.ref (x + 261)), some (.ref (x + 273)), some (.ref (x + 274)), some (.int (nI i)), m6, m7, l8] [] s) : zW X mL_law 12 (bc + 1) (bs + 6) Q 1999 [some (.ref (zQ X 37)), some (.ref x), some (.ref (x + 261)), some (.ref (x + 273)), some (.ref (x + 274)), some (.int (nI i)), l6, l7, l8] [] σ := by
  obtain ⟨cd, hI⟩ : ∃ cd, zIv x (x + 261) cd σ := hI0.elim (fun h => ⟨_, h⟩) id
  obtain ⟨fs, hx⟩ := hI.ox
  obtain ⟨Fo, hyo, -⟩ := hI.oy
  obtain ⟨⟨A, S, m, U, n, T, ll, ln, hs1, kf, ld, dt, dc⟩, hK, hM, hL⟩ := hI
  refine zr_aload_n dL_law_1999 rfl ?_
  have hsm := sem_precedentCount hX hK hM hL hN hQ
  rcases hsm with ⟨v, d1, mc, ms, Qs, d9, m1, m6, hc, hr⟩ | ⟨E, k, d1, mc, ms, Qs, hk, -⟩
  rotate_left
  · cases hk
  refine zr_callVi (rest := []) dL_law_2000 vL_265 hc hx (by omega) (by omega) (by omega) rfl rfl (Nat.le_of_ble_eq_true rfl) (by decide) rfl (fun r1 s1 h1 => ?_)
  obtain ⟨e1, hq⟩ := h1
  rw [e1]
  have F0 := (hr _ hq).1
  have hy := zFr.get F0 (by unfold zXr; omega) hyo
  obtain ⟨d2, d29, hr2⟩ := (hr _ hq).2 s1 zFr.rf
  have F1 : zFr σ s1 (fun q => x ≤ q ∧ q < x + 274) := F0.w (fun q hq => by unfold zXr at hq; omega)
  have ko := zFr.get F0 (by unfold zXr; omega) ho
  refine zr_aload_n dL_law_2003 rfl ?_
  refine zr_callVi (rest := [.int v]) dL_law_2004 vL_268 hr2 hy (by omega) (by omega) (by omega) rfl rfl (Nat.le_of_ble_eq_true rfl) (by decide) rfl (fun r3 u h3 => ?_)
  obtain ⟨er, F2, hI⟩ := h3
  rw [er]
  have F3 : zFr σ u (fun q => x ≤ q ∧ q < x + 274) := zFr.tr F1 F2 (fun q hq => by unfold zMr at hq; omega)
  have ko2 := zFr.get F2 (by unfold zMr; omega) ko
  refine zr_icmp_eq (tgt := 2861) dL_law_2007 (by decide) (fun c_2007 => ?_) (fun c_2007 => absurd (rfl) c_2007)
  exact zr_less (by omega) (by omega) (kk u _ _ _ _ hI F3 ko2)

set_option maxHeartbeats 400000 in
set_option maxRecDepth 100000 in
theorem blk_decidedCount {X : zX} (hX : X.1.stackTraces = false) {Q : zO → zS → Prop} {σ : zS} {x i bc bs : Nat} {l6 l7 l8 : Option Value} {f : Nat → Int64} (hQ : ∀ i j : Nat, i < 7 → j < 7 → zQ X i = zQ X j → i = j) (hi : i + 4 ≤ zsL X) (hs : zsL X < 2 ^ 31) (hI0 : zIv x (x + 261) 0 σ ∨ ∃ cd, zIv x (x + 261) cd σ) (hN : σ.2 = none) (ho : σ.1 (x + 273) = .inl (3, 1, .inr (.inl f))) (kk : ∀ (s : zS) (cd : Int32) (f2 : Nat → Int64) (m6 m7 : Option Value), zIv x (x + 261) cd s → zFr σ s (fun q => x ≤ q ∧ q < x + 274) → s.1 (x + 273) = .inl (3, 1, .inr (.inl f2)) → zW X mL_law 12 bc bs Q 2861 [some (.ref (zQ X 37)), some (.ref x), some (.ref (x + 261)), some (.ref (x + 273)), some (.ref (x + 274)), some (.int (nI i)), m6, m7, l8] [] s) : zW X mL_law 12 (bc + 1) (bs + 6) Q 2131 [some (.ref (zQ X 37)), some (.ref x), some (.ref (x + 261)), some (.ref (x + 273)), some (.ref (x + 274)), some (.int (nI i)), l6, l7, l8] [] σ := by
  obtain ⟨cd, hI⟩ : ∃ cd, zIv x (x + 261) cd σ := hI0.elim (fun h => ⟨_, h⟩) id
  obtain ⟨fs, hx⟩ := hI.ox
  obtain ⟨Fo, hyo, -⟩ := hI.oy
  obtain ⟨⟨A, S, m, U, n, T, ll, ln, hs1, kf, ld, dt, dc⟩, hK, hM, hL⟩ := hI
  refine zr_aload_n dL_law_2131 rfl ?_
  have hsm := sem_decidedCount hX hK hM hL hN hQ
  rcases hsm with ⟨v, d1, mc, ms, Qs, d9, m1, m6, hc, hr⟩ | ⟨E, k, d1, mc, ms, Qs, hk, -⟩
  rotate_left
  · cases hk
  refine zr_callVi (rest := []) dL_law_2132 vL_275 hc hx (by omega) (by omega) (by omega) rfl rfl (Nat.le_of_ble_eq_true rfl) (by decide) rfl (fun r1 s1 h1 => ?_)
  obtain ⟨e1, hq⟩ := h1
  rw [e1]
  have F0 := (hr _ hq).1
  have hy := zFr.get F0 (by unfold zXr; omega) hyo
  obtain ⟨d2, d29, hr2⟩ := (hr _ hq).2 s1 zFr.rf
  have F1 : zFr σ s1 (fun q => x ≤ q ∧ q < x + 274) := F0.w (fun q hq => by unfold zXr at hq; omega)
  have ko := zFr.get F0 (by unfold zXr; omega) ho
  refine zr_aload_n dL_law_2135 rfl ?_
  refine zr_callVi (rest := [.int v]) dL_law_2136 vL_278 hr2 hy (by omega) (by omega) (by omega) rfl rfl (Nat.le_of_ble_eq_true rfl) (by decide) rfl (fun r3 u h3 => ?_)
  obtain ⟨er, F2, hI⟩ := h3
  rw [er]
  have F3 : zFr σ u (fun q => x ≤ q ∧ q < x + 274) := zFr.tr F1 F2 (fun q hq => by unfold zMr at hq; omega)
  have ko2 := zFr.get F2 (by unfold zMr; omega) ko
  refine zr_icmp_eq (tgt := 2861) dL_law_2139 (by decide) (fun c_2139 => ?_) (fun c_2139 => absurd (rfl) c_2139)
  exact zr_less (by omega) (by omega) (kk u _ _ _ _ hI F3 ko2)

set_option maxHeartbeats 400000 in
set_option maxRecDepth 100000 in
theorem blk_tangledCount {X : zX} (hX : X.1.stackTraces = false) {Q : zO → zS → Prop} {σ : zS} {x i bc bs : Nat} {l6 l7 l8 : Option Value} {f : Nat → Int64} (hQ : ∀ i j : Nat, i < 7 → j < 7 → zQ X i = zQ X j → i = j) (hi : i + 4 ≤ zsL X) (hs : zsL X < 2 ^ 31) (hI0 : zIv x (x + 261) 0 σ ∨ ∃ cd, zIv x (x + 261) cd σ) (hN : σ.2 = none) (ho : σ.1 (x + 273) = .inl (3, 1, .inr (.inl f))) (kk : ∀ (s : zS) (cd : Int32) (f2 : Nat → Int64) (m6 m7 : Option Value), zIv x (x + 261) cd s → zFr σ s (fun q => x ≤ q ∧ q < x + 274) → s.1 (x + 273) = .inl (3, 1, .inr (.inl f2)) → zW X mL_law 12 bc bs Q 2861 [some (.ref (zQ X 37)), some (.ref x), some (.ref (x + 261)), some (.ref (x + 273)), some (.ref (x + 274)), some (.int (nI i)), m6, m7, l8] [] s) : zW X mL_law 12 (bc + 1) (bs + 6) Q 2144 [some (.ref (zQ X 37)), some (.ref x), some (.ref (x + 261)), some (.ref (x + 273)), some (.ref (x + 274)), some (.int (nI i)), l6, l7, l8] [] σ := by
  obtain ⟨cd, hI⟩ : ∃ cd, zIv x (x + 261) cd σ := hI0.elim (fun h => ⟨_, h⟩) id
  obtain ⟨fs, hx⟩ := hI.ox
  obtain ⟨Fo, hyo, -⟩ := hI.oy
  obtain ⟨⟨A, S, m, U, n, T, ll, ln, hs1, kf, ld, dt, dc⟩, hK, hM, hL⟩ := hI
  refine zr_aload_n dL_law_2144 rfl ?_
  have hsm := sem_tangledCount hX hK hM hL hN hQ
  rcases hsm with ⟨v, d1, mc, ms, Qs, d9, m1, m6, hc, hr⟩ | ⟨E, k, d1, mc, ms, Qs, hk, -⟩
  rotate_left
  · cases hk
  refine zr_callVi (rest := []) dL_law_2145 vL_279 hc hx (by omega) (by omega) (by omega) rfl rfl (Nat.le_of_ble_eq_true rfl) (by decide) rfl (fun r1 s1 h1 => ?_)
  obtain ⟨e1, hq⟩ := h1
  rw [e1]
  have F0 := (hr _ hq).1
  have hy := zFr.get F0 (by unfold zXr; omega) hyo
  obtain ⟨d2, d29, hr2⟩ := (hr _ hq).2 s1 zFr.rf
  have F1 : zFr σ s1 (fun q => x ≤ q ∧ q < x + 274) := F0.w (fun q hq => by unfold zXr at hq; omega)
  have ko := zFr.get F0 (by unfold zXr; omega) ho
  refine zr_aload_n dL_law_2148 rfl ?_
  refine zr_callVi (rest := [.int v]) dL_law_2149 vL_282 hr2 hy (by omega) (by omega) (by omega) rfl rfl (Nat.le_of_ble_eq_true rfl) (by decide) rfl (fun r3 u h3 => ?_)
  obtain ⟨er, F2, hI⟩ := h3
  rw [er]
  have F3 : zFr σ u (fun q => x ≤ q ∧ q < x + 274) := zFr.tr F1 F2 (fun q hq => by unfold zMr at hq; omega)
  have ko2 := zFr.get F2 (by unfold zMr; omega) ko
  refine zr_icmp_eq (tgt := 2861) dL_law_2152 (by decide) (fun c_2152 => ?_) (fun c_2152 => absurd (rfl) c_2152)
  exact zr_less (by omega) (by omega) (kk u _ _ _ _ hI F3 ko2)

set_option maxHeartbeats 400000 in
set_option maxRecDepth 100000 in
theorem blk_isConsistent {X : zX} (hX : X.1.stackTraces = false) {Q : zO → zS → Prop} {σ : zS} {x i bc bs : Nat} {l6 l7 l8 : Option Value} {f : Nat → Int64} (hQ : ∀ i j : Nat, i < 7 → j < 7 → zQ X i = zQ X j → i = j) (hi : i + 4 ≤ zsL X) (hs : zsL X < 2 ^ 31) (hI0 : zIv x (x + 261) 0 σ ∨ ∃ cd, zIv x (x + 261) cd σ) (hN : σ.2 = none) (ho : σ.1 (x + 273) = .inl (3, 1, .inr (.inl f))) (kk : ∀ (s : zS) (cd : Int32) (f2 : Nat → Int64) (m6 m7 : Option Value), zIv x (x + 261) cd s → zFr σ s (fun q => x ≤ q ∧ q < x + 274) → s.1 (x + 273) = .inl (3, 1, .inr (.inl f2)) → zW X mL_law 12 bc bs Q 2861 [some (.ref (zQ X 37)), some (.ref x), some (.ref (x + 261)), some (.ref (x + 273)), some (.ref (x + 274)), some (.int (nI i)), m6, m7, l8] [] s) : zW X mL_law 12 (bc + 1) (bs + 6) Q 2288 [some (.ref (zQ X 37)), some (.ref x), some (.ref (x + 261)), some (.ref (x + 273)), some (.ref (x + 274)), some (.int (nI i)), l6, l7, l8] [] σ := by
  obtain ⟨cd, hI⟩ : ∃ cd, zIv x (x + 261) cd σ := hI0.elim (fun h => ⟨_, h⟩) id
  obtain ⟨fs, hx⟩ := hI.ox
  obtain ⟨Fo, hyo, -⟩ := hI.oy
  obtain ⟨⟨A, S, m, U, n, T, ll, ln, hs1, kf, ld, dt, dc⟩, hK, hM, hL⟩ := hI
  refine zr_aload_n dL_law_2288 rfl ?_
  have hsm := sem_isConsistent hX hK hM hL hN hQ
  rcases hsm with ⟨v, d1, mc, ms, Qs, d9, m1, m6, hc, hr⟩ | ⟨E, k, d1, mc, ms, Qs, hk, -⟩
  rotate_left
  · cases hk
  refine zr_callVi (rest := []) dL_law_2289 vL_290 hc hx (by omega) (by omega) (by omega) rfl rfl (Nat.le_of_ble_eq_true rfl) (by decide) rfl (fun r1 s1 h1 => ?_)
  obtain ⟨e1, hq⟩ := h1
  rw [e1]
  have F0 := (hr _ hq).1
  have hy := zFr.get F0 (by unfold zXr; omega) hyo
  obtain ⟨d2, d29, hr2⟩ := (hr _ hq).2 s1 zFr.rf
  have F1 : zFr σ s1 (fun q => x ≤ q ∧ q < x + 274) := F0.w (fun q hq => by unfold zXr at hq; omega)
  have ko := zFr.get F0 (by unfold zXr; omega) ho
  refine zr_aload_n dL_law_2292 rfl ?_
  refine zr_callVi (rest := [.int v]) dL_law_2293 vL_294 hr2 hy (by omega) (by omega) (by omega) rfl rfl (Nat.le_of_ble_eq_true rfl) (by decide) rfl (fun r3 u h3 => ?_)
  obtain ⟨er, F2, hI⟩ := h3
  rw [er]
  have F3 : zFr σ u (fun q => x ≤ q ∧ q < x + 274) := zFr.tr F1 F2 (fun q hq => by unfold zMr at hq; omega)
  have ko2 := zFr.get F2 (by unfold zMr; omega) ko
  refine zr_icmp_eq (tgt := 2861) dL_law_2296 (by decide) (fun c_2296 => ?_) (fun c_2296 => absurd (rfl) c_2296)
  exact zr_less (by omega) (by omega) (kk u _ _ _ _ hI F3 ko2)

set_option maxHeartbeats 400000 in
set_option maxRecDepth 100000 in
theorem blk_undoCount {X : zX} (hX : X.1.stackTraces = false) {Q : zO → zS → Prop} {σ : zS} {x i bc bs : Nat} {l6 l7 l8 : Option Value} {f : Nat → Int64} (hQ : ∀ i j : Nat, i < 7 → j < 7 → zQ X i = zQ X j → i = j) (hi : i + 4 ≤ zsL X) (hs : zsL X < 2 ^ 31) (hI0 : zIv x (x + 261) 0 σ ∨ ∃ cd, zIv x (x + 261) cd σ) (hN : σ.2 = none) (ho : σ.1 (x + 273) = .inl (3, 1, .inr (.inl f))) (kk : ∀ (s : zS) (cd : Int32) (f2 : Nat → Int64) (m6 m7 : Option Value), zIv x (x + 261) cd s → zFr σ s (fun q => x ≤ q ∧ q < x + 274) → s.1 (x + 273) = .inl (3, 1, .inr (.inl f2)) → zW X mL_law 12 bc bs Q 2861 [some (.ref (zQ X 37)), some (.ref x), some (.ref (x + 261)), some (.ref (x + 273)), some (.ref (x + 274)), some (.int (nI i)), m6, m7, l8] [] s) : zW X mL_law 12 (bc + 1) (bs + 6) Q 2791 [some (.ref (zQ X 37)), some (.ref x), some (.ref (x + 261)), some (.ref (x + 273)), some (.ref (x + 274)), some (.int (nI i)), l6, l7, l8] [] σ := by
  obtain ⟨cd, hI⟩ : ∃ cd, zIv x (x + 261) cd σ := hI0.elim (fun h => ⟨_, h⟩) id
  obtain ⟨fs, hx⟩ := hI.ox
  obtain ⟨Fo, hyo, -⟩ := hI.oy
  obtain ⟨⟨A, S, m, U, n, T, ll, ln, hs1, kf, ld, dt, dc⟩, hK, hM, hL⟩ := hI
  refine zr_aload_n dL_law_2791 rfl ?_
  have hsm := sem_undoCount hX hK hM hL hN hQ
  rcases hsm with ⟨v, d1, mc, ms, Qs, d9, m1, m6, hc, hr⟩ | ⟨E, k, d1, mc, ms, Qs, hk, -⟩
  rotate_left
  · cases hk
  refine zr_callVi (rest := []) dL_law_2792 vL_326 hc hx (by omega) (by omega) (by omega) rfl rfl (Nat.le_of_ble_eq_true rfl) (by decide) rfl (fun r1 s1 h1 => ?_)
  obtain ⟨e1, hq⟩ := h1
  rw [e1]
  have F0 := (hr _ hq).1
  have hy := zFr.get F0 (by unfold zXr; omega) hyo
  obtain ⟨d2, d29, hr2⟩ := (hr _ hq).2 s1 zFr.rf
  have F1 : zFr σ s1 (fun q => x ≤ q ∧ q < x + 274) := F0.w (fun q hq => by unfold zXr at hq; omega)
  have ko := zFr.get F0 (by unfold zXr; omega) ho
  refine zr_aload_n dL_law_2795 rfl ?_
  refine zr_callVi (rest := [.int v]) dL_law_2796 vL_329 hr2 hy (by omega) (by omega) (by omega) rfl rfl (Nat.le_of_ble_eq_true rfl) (by decide) rfl (fun r3 u h3 => ?_)
  obtain ⟨er, F2, hI⟩ := h3
  rw [er]
  have F3 : zFr σ u (fun q => x ≤ q ∧ q < x + 274) := zFr.tr F1 F2 (fun q hq => by unfold zMr at hq; omega)
  have ko2 := zFr.get F2 (by unfold zMr; omega) ko
  refine zr_icmp_eq (tgt := 2861) dL_law_2799 (by decide) (fun c_2799 => ?_) (fun c_2799 => absurd (rfl) c_2799)
  exact zr_less (by omega) (by omega) (kk u _ _ _ _ hI F3 ko2)

set_option maxHeartbeats 400000 in
set_option maxRecDepth 100000 in
theorem blk_saveSnapshot {X : zX} (hX : X.1.stackTraces = false) {Q : zO → zS → Prop} {σ : zS} {x i bc bs : Nat} {l6 l7 l8 : Option Value} {f : Nat → Int64} (hQ : ∀ i j : Nat, i < 7 → j < 7 → zQ X i = zQ X j → i = j) (hi : i + 4 ≤ zsL X) (hs : zsL X < 2 ^ 31) (hI0 : zIv x (x + 261) 0 σ ∨ ∃ cd, zIv x (x + 261) cd σ) (hN : σ.2 = none) (ho : σ.1 (x + 273) = .inl (3, 1, .inr (.inl f))) (kk : ∀ (s : zS) (cd : Int32) (f2 : Nat → Int64) (m6 m7 : Option Value), zIv x (x + 261) cd s → zFr σ s (fun q => x ≤ q ∧ q < x + 274) → s.1 (x + 273) = .inl (3, 1, .inr (.inl f2)) → zW X mL_law 12 bc bs Q 2861 [some (.ref (zQ X 37)), some (.ref x), some (.ref (x + 261)), some (.ref (x + 273)), some (.ref (x + 274)), some (.int (nI i)), m6, m7, l8] [] s) : zW X mL_law 12 (bc + 1) (bs + 6) Q 2804 [some (.ref (zQ X 37)), some (.ref x), some (.ref (x + 261)), some (.ref (x + 273)), some (.ref (x + 274)), some (.int (nI i)), l6, l7, l8] [] σ := by
  obtain ⟨cd, hI⟩ : ∃ cd, zIv x (x + 261) cd σ := hI0.elim (fun h => ⟨_, h⟩) id
  obtain ⟨fs, hx⟩ := hI.ox
  obtain ⟨Fo, hyo, -⟩ := hI.oy
  obtain ⟨⟨A, S, m, U, n, T, ll, ln, hs1, kf, ld, dt, dc⟩, hK, hM, hL⟩ := hI
  refine zr_aload_n dL_law_2804 rfl ?_
  have hsm := sem_saveSnapshot hX hK hM hL hN hQ
  rcases hsm with ⟨v, d1, mc, ms, Qs, d9, m1, m6, hc, hr⟩ | ⟨E, k, d1, mc, ms, Qs, hk, -⟩
  rotate_left
  · cases hk
  refine zr_callVi (rest := []) dL_law_2805 vL_330 hc hx (by omega) (by omega) (by omega) rfl rfl (Nat.le_of_ble_eq_true rfl) (by decide) rfl (fun r1 s1 h1 => ?_)
  obtain ⟨e1, hq⟩ := h1
  rw [e1]
  have F0 := (hr _ hq).1
  have hy := zFr.get F0 (by unfold zXr; omega) hyo
  obtain ⟨d2, d29, hr2⟩ := (hr _ hq).2 s1 zFr.rf
  have F1 : zFr σ s1 (fun q => x ≤ q ∧ q < x + 274) := F0.w (fun q hq => by unfold zXr at hq; omega)
  have ko := zFr.get F0 (by unfold zXr; omega) ho
  refine zr_aload_n dL_law_2808 rfl ?_
  refine zr_callVi (rest := [.int v]) dL_law_2809 vL_333 hr2 hy (by omega) (by omega) (by omega) rfl rfl (Nat.le_of_ble_eq_true rfl) (by decide) rfl (fun r3 u h3 => ?_)
  obtain ⟨er, F2, hI⟩ := h3
  rw [er]
  have F3 : zFr σ u (fun q => x ≤ q ∧ q < x + 274) := zFr.tr F1 F2 (fun q hq => by unfold zMr at hq; omega)
  have ko2 := zFr.get F2 (by unfold zMr; omega) ko
  refine zr_icmp_eq (tgt := 2861) dL_law_2812 (by decide) (fun c_2812 => ?_) (fun c_2812 => absurd (rfl) c_2812)
  exact zr_less (by omega) (by omega) (kk u _ _ _ _ hI F3 ko2)

