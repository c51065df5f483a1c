/-! the blocks of coordinate, meanLength, freedShare -/
set_option maxHeartbeats 400000 in
set_option maxRecDepth 100000 in
theorem blk_coordinate {X : zX} (hX : X.1.stackTraces = false) {Q : zO → zS → Prop} {σ : zS} {x i bc bs : Nat} {l6 l7 l8 : Option Value} {f : Nat → Int64} (hQ : ∀ i j : Nat, i < 7 → j < 7 → zQ X i = zQ X j → i = j) (hi : i + 4 ≤ zsL X) (hs : zsL X < 2 ^ 31) (hI0 : zIv x (x + 261) 0 σ ∨ ∃ cd, zIv x (x + 261) cd σ) (hN : σ.2 = none) (ho : σ.1 (x + 273) = .inl (3, 1, .inr (.inl f))) (kk : ∀ (s : zS) (cd : Int32) (f2 : Nat → Int64) (m6 m7 m8 : Option Value), zIv x (x + 261) cd s → zFr σ s (fun q => x ≤ q ∧ q < x + 274) → s.1 (x + 273) = .inl (3, 1, .inr (.inl f2)) → zW X mL_law 12 bc bs Q 2861 [some (.ref (zQ X 37)), some (.ref x), some (.ref (x + 261)), some (.ref (x + 273)), some (.ref (x + 274)), some (.int (nI i)), m6, m7, m8] [] s) : zW X mL_law 12 (bc + 1) (bs + 6) Q 1170 [some (.ref (zQ X 37)), some (.ref x), some (.ref (x + 261)), some (.ref (x + 273)), some (.ref (x + 274)), some (.int (nI i)), l6, l7, l8] [] σ := by
  have hs2 : zsL X = X.2.2.2.2.2.1 := rfl
  obtain ⟨cd, hI⟩ : ∃ cd, zIv x (x + 261) cd σ := hI0.elim (fun h => ⟨_, h⟩) id
  obtain ⟨fs, hx⟩ := hI.ox
  obtain ⟨Fo, hyo, -⟩ := hI.oy
  obtain ⟨⟨A, S, m, U, n, T, ll, ln, hs1, kf, ld, dt, dc⟩, hK, hM, hL⟩ := hI
  refine zr_aload_n dL_law_1170 rfl ?_
  refine zr_aload_n dL_law_1171 rfl ?_
  refine zr_iload dL_law_1172 rfl ?_
  refine zr_iconst (v := 1) dL_law_1174 (by decide) ?_
  refine zr_iadd dL_law_1175 ?_
  refine zr_eqi (x' := nI (i + 1)) (nI_add i 1) ?_
  refine zr_sat dL_law_1176 (vp_in_nI (n := i + 1) (by omega) (by omega)) ?_
  rw [nI_clamp (n := i + 1) (by omega)]
  refine zr_aload_n dL_law_1177 rfl ?_
  refine zr_iload dL_law_1178 rfl ?_
  refine zr_iconst (v := 2) dL_law_1180 (by decide) ?_
  refine zr_iadd dL_law_1181 ?_
  refine zr_eqi (x' := nI (i + 2)) (nI_add i 2) ?_
  refine zr_sat dL_law_1182 (vp_in_nI (n := i + 2) (by omega) (by omega)) ?_
  rw [nI_clamp (n := i + 2) (by omega)]
  refine zr_aload_n dL_law_1183 rfl ?_
  have hsm := sem_coordinate hX hK hM hL hN hQ (X.2.2.2.2.2.2 (i + 1)) (X.2.2.2.2.2.2 (i + 2))
  rcases hsm with ⟨v, d1, mc, ms, Qs, d9, m1, m6, hc, hr⟩ | ⟨E, k, d1, mc, ms, Qs, hk, d9, m1, m6, hc, hr⟩
  · refine zr_callH (rest := []) dL_law_1184 vL_226 (wOK_coordinate hX hc hx (fun s2 hq => zFr.get (hr s2 hq).1 (by unfold zXr; omega) ho)) (by omega) (by omega) (by omega) rfl rfl (Nat.le_of_ble_eq_true rfl) rfl (fun v2 s1 h_ => ?_) (fun E1 s1 h_ => by obtain ⟨r, e, -⟩ := h_; cases e)
    obtain ⟨r, e, e2, s2, hq, et⟩ := h_
    cases e
    rw [e2]
    have F0 := (hr _ hq).1
    have hy0 := zFr.get F0 (by unfold zXr; omega) hyo
    have Ft : zFr s2 s1 (zOu x) := by rw [et]; exact ⟨rfl, fun a ha => zup_ne _ _ (fun z => ha (by unfold zOu; omega))⟩
    obtain ⟨d2, d29, hr2⟩ := (hr _ hq).2 s1 Ft
    have hy := zFr.get Ft (by unfold zOu; omega) hy0
    have F1 : zFr σ s1 (fun q => x ≤ q ∧ q < x + 274) := zFr.tr (F0.w (fun q hq => by unfold zXr at hq; omega)) (P := fun q => x ≤ q ∧ q < x + 274) (show zFr s2 s1 (fun q => x ≤ q ∧ q < x + 274) from by rw [et]; exact ⟨rfl, fun a ha => zup_ne _ _ (fun z => ha (by omega))⟩) (fun q hq => hq)
    have ko : s1.1 (x + 273) = .inl (3, 1, .inr (.inl (vp_updL f 0 v))) := by rw [et]; exact zup_at _ _ _
    refine zr_istore (ls' := [some (.ref ((zQ X 37))), some (.ref x), some (.ref ((x + 261))), some (.ref ((x + 273))), some (.ref ((x + 274))), some (.int (nI i)), some (.int 0), l7, l8]) dL_law_1187 (by decide) rfl ?_
    refine zr_aload_n dL_law_1189 rfl ?_
    refine zr_aload_n dL_law_1190 rfl ?_
    refine zr_iload dL_law_1191 rfl ?_
    refine zr_iconst (v := 1) dL_law_1193 (by decide) ?_
    refine zr_iadd dL_law_1194 ?_
    refine zr_eqi (x' := nI (i + 1)) (nI_add i 1) ?_
    refine zr_sat dL_law_1195 (vp_in_nI (n := i + 1) (by omega) (by omega)) ?_
    rw [nI_clamp (n := i + 1) (by omega)]
    refine zr_aload_n dL_law_1196 rfl ?_
    refine zr_iload dL_law_1197 rfl ?_
    refine zr_iconst (v := 2) dL_law_1199 (by decide) ?_
    refine zr_iadd dL_law_1200 ?_
    refine zr_eqi (x' := nI (i + 2)) (nI_add i 2) ?_
    refine zr_sat dL_law_1201 (vp_in_nI (n := i + 2) (by omega) (by omega)) ?_
    rw [nI_clamp (n := i + 2) (by omega)]
    refine zr_callVl (rest := []) dL_law_1202 vL_228 hr2 hy (by omega) (by omega) (by omega) rfl rfl (Nat.le_of_ble_eq_true rfl) (by decide) rfl (fun r3 u h3 => ?_)
    obtain ⟨er, F2, hI⟩ := h3
    rw [er]
    have F3 : zFr σ u (fun q => x ≤ q ∧ q < x + 274) := zFr.tr F1 F2 (fun q hq => by unfold zMr at hq; omega)
    have ko2 := zFr.get F2 (by unfold zMr; omega) ko
    obtain ⟨F8, h8, e8⟩ := hI.oy
    refine zr_lstore (ls' := [some (.ref ((zQ X 37))), some (.ref x), some (.ref ((x + 261))), some (.ref ((x + 273))), some (.ref ((x + 274))), some (.int (nI i)), some (.int 0), some (.long v), none]) dL_law_1205 (by decide) rfl ?_
    refine zr_aload_n dL_law_1207 rfl ?_
    refine zr_pVi (rest := []) dL_law_1208 vL_173 (qX10_thrown hX h8) h8 (by omega) (by omega) (by omega) rfl rfl (Nat.le_of_ble_eq_true rfl) (by decide) rfl ?_
    refine zr_eqi (x' := 0) e8 ?_
    refine zr_iload dL_law_1211 rfl ?_
    refine zr_icmp_eq (tgt := 1218) dL_law_1213 (by decide) (fun c_1213 => ?_) (fun c_1213 => absurd (by decide) c_1213)
    refine zr_iload dL_law_1218 rfl ?_
    refine zr_if_ne (tgt := 1234) dL_law_1220 (by decide) (fun c_1220 => absurd (by decide) c_1220) (fun c_1220 => ?_)
    refine zr_aload_n dL_law_1223 rfl ?_
    refine zr_iconst (v := 0) dL_law_1224 (by decide) ?_
    refine zr_laload dL_law_1225 ko2 (vp_in_nI (n := 0) (by omega) (by omega)) ?_
    rw [show (0 : Int32).toNatClampNeg = 0 from by decide]
    refine zr_eql (x' := v) (by unfold vp_updL; rw [if_pos rfl]) ?_
    refine zr_lload dL_law_1226 rfl ?_
    refine zr_lcmp dL_law_1228 ?_
    refine zr_eqi (x' := 0) (lcmp_self _) ?_
    refine zr_if_eq (tgt := 1234) dL_law_1229 (by decide) (fun c_1229 => ?_) (fun c_1229 => absurd (by decide) c_1229)
    refine zr_goto (tgt := 2861) dL_law_1234 (by decide) ?_
    exact zr_less (by omega) (by omega) (kk u _ _ _ _ _ hI F3 ko2)
  · skip
    rcases List.mem_cons.mp hk with ek | hk
    · cases ek
      refine zr_callH (rest := []) dL_law_1184 vL_226 (wN1_coordinate hX hc hx) (by omega) (by omega) (by omega) rfl rfl (Nat.le_of_ble_eq_true rfl) rfl (fun v2 s1 h_ => ?_) (fun E1 s1 h_ => by obtain ⟨r, e, -⟩ := h_; cases e)
      obtain ⟨r, e, e2, hq⟩ := h_
      cases e
      rw [e2]
      have F0 := (hr _ hq).1
      have hy0 := zFr.get F0 (by unfold zXr; omega) hyo
      obtain ⟨d2, d29, hr2⟩ := (hr _ hq).2 s1 zFr.rf
      have hy := hy0
      have F1 : zFr σ s1 (fun q => x ≤ q ∧ q < x + 274) := F0.w (fun q hq => by unfold zXr at hq; omega)
      have ko := zFr.get F0 (by unfold zXr; omega) ho
      refine zr_istore (ls' := [some (.ref ((zQ X 37))), some (.ref x), some (.ref ((x + 261))), some (.ref ((x + 273))), some (.ref ((x + 274))), some (.int (nI i)), some (.int 1), l7, l8]) dL_law_1187 (by decide) rfl ?_
      refine zr_aload_n dL_law_1189 rfl ?_
      refine zr_aload_n dL_law_1190 rfl ?_
      refine zr_iload dL_law_1191 rfl ?_
      refine zr_iconst (v := 1) dL_law_1193 (by decide) ?_
      refine zr_iadd dL_law_1194 ?_
      refine zr_eqi (x' := nI (i + 1)) (nI_add i 1) ?_
      refine zr_sat dL_law_1195 (vp_in_nI (n := i + 1) (by omega) (by omega)) ?_
      rw [nI_clamp (n := i + 1) (by omega)]
      refine zr_aload_n dL_law_1196 rfl ?_
      refine zr_iload dL_law_1197 rfl ?_
      refine zr_iconst (v := 2) dL_law_1199 (by decide) ?_
      refine zr_iadd dL_law_1200 ?_
      refine zr_eqi (x' := nI (i + 2)) (nI_add i 2) ?_
      refine zr_sat dL_law_1201 (vp_in_nI (n := i + 2) (by omega) (by omega)) ?_
      rw [nI_clamp (n := i + 2) (by omega)]
      refine zr_callVl (rest := []) dL_law_1202 vL_228 hr2 hy (by omega) (by omega) (by omega) rfl rfl (Nat.le_of_ble_eq_true rfl) (by decide) rfl (fun r3 u h3 => ?_)
      obtain ⟨er, F2, hI⟩ := h3
      have F3 : zFr σ u (fun q => x ≤ q ∧ q < x + 274) := zFr.tr F1 F2 (fun q hq => by unfold zMr at hq; omega)
      have ko2 := zFr.get F2 (by unfold zMr; omega) ko
      obtain ⟨F8, h8, e8⟩ := hI.oy
      refine zr_lstore (ls' := [some (.ref ((zQ X 37))), some (.ref x), some (.ref ((x + 261))), some (.ref ((x + 273))), some (.ref ((x + 274))), some (.int (nI i)), some (.int 1), some (.long r3), none]) dL_law_1205 (by decide) rfl ?_
      refine zr_aload_n dL_law_1207 rfl ?_
      refine zr_pVi (rest := []) dL_law_1208 vL_173 (qX10_thrown hX h8) h8 (by omega) (by omega) (by omega) rfl rfl (Nat.le_of_ble_eq_true rfl) (by decide) rfl ?_
      refine zr_eqi (x' := 1) e8 ?_
      refine zr_iload dL_law_1211 rfl ?_
      refine zr_icmp_eq (tgt := 1218) dL_law_1213 (by decide) (fun c_1213 => ?_) (fun c_1213 => absurd (by decide) c_1213)
      refine zr_iload dL_law_1218 rfl ?_
      refine zr_if_ne (tgt := 1234) dL_law_1220 (by decide) (fun c_1220 => ?_) (fun c_1220 => absurd c_1220 (by decide))
      refine zr_goto (tgt := 2861) dL_law_1234 (by decide) ?_
      exact zr_less (by omega) (by omega) (kk u _ _ _ _ _ hI F3 ko2)
    · skip
      rcases List.mem_cons.mp hk with ek | hk
      · cases ek
        refine zr_callH (rest := []) dL_law_1184 vL_226 (wN2_coordinate hX hc hx) (by omega) (by omega) (by omega) rfl rfl (Nat.le_of_ble_eq_true rfl) rfl (fun v2 s1 h_ => ?_) (fun E1 s1 h_ => by obtain ⟨r, e, -⟩ := h_; cases e)
        obtain ⟨r, e, e2, hq⟩ := h_
        cases e
        rw [e2]
        have F0 := (hr _ hq).1
        have hy0 := zFr.get F0 (by unfold zXr; omega) hyo
        obtain ⟨d2, d29, hr2⟩ := (hr _ hq).2 s1 zFr.rf
        have hy := hy0
        have F1 : zFr σ s1 (fun q => x ≤ q ∧ q < x + 274) := F0.w (fun q hq => by unfold zXr at hq; omega)
        have ko := zFr.get F0 (by unfold zXr; omega) ho
        refine zr_istore (ls' := [some (.ref ((zQ X 37))), some (.ref x), some (.ref ((x + 261))), some (.ref ((x + 273))), some (.ref ((x + 274))), some (.int (nI i)), some (.int 2), l7, l8]) dL_law_1187 (by decide) rfl ?_
        refine zr_aload_n dL_law_1189 rfl ?_
        refine zr_aload_n dL_law_1190 rfl ?_
        refine zr_iload dL_law_1191 rfl ?_
        refine zr_iconst (v := 1) dL_law_1193 (by decide) ?_
        refine zr_iadd dL_law_1194 ?_
        refine zr_eqi (x' := nI (i + 1)) (nI_add i 1) ?_
        refine zr_sat dL_law_1195 (vp_in_nI (n := i + 1) (by omega) (by omega)) ?_
        rw [nI_clamp (n := i + 1) (by omega)]
        refine zr_aload_n dL_law_1196 rfl ?_
        refine zr_iload dL_law_1197 rfl ?_
        refine zr_iconst (v := 2) dL_law_1199 (by decide) ?_
        refine zr_iadd dL_law_1200 ?_
        refine zr_eqi (x' := nI (i + 2)) (nI_add i 2) ?_
        refine zr_sat dL_law_1201 (vp_in_nI (n := i + 2) (by omega) (by omega)) ?_
        rw [nI_clamp (n := i + 2) (by omega)]
        refine zr_callVl (rest := []) dL_law_1202 vL_228 hr2 hy (by omega) (by omega) (by omega) rfl rfl (Nat.le_of_ble_eq_true rfl) (by decide) rfl (fun r3 u h3 => ?_)
        obtain ⟨er, F2, hI⟩ := h3
        have F3 : zFr σ u (fun q => x ≤ q ∧ q < x + 274) := zFr.tr F1 F2 (fun q hq => by unfold zMr at hq; omega)
        have ko2 := zFr.get F2 (by unfold zMr; omega) ko
        obtain ⟨F8, h8, e8⟩ := hI.oy
        refine zr_lstore (ls' := [some (.ref ((zQ X 37))), some (.ref x), some (.ref ((x + 261))), some (.ref ((x + 273))), some (.ref ((x + 274))), some (.int (nI i)), some (.int 2), some (.long r3), none]) dL_law_1205 (by decide) rfl ?_
        refine zr_aload_n dL_law_1207 rfl ?_
        refine zr_pVi (rest := []) dL_law_1208 vL_173 (qX10_thrown hX h8) h8 (by omega) (by omega) (by omega) rfl rfl (Nat.le_of_ble_eq_true rfl) (by decide) rfl ?_
        refine zr_eqi (x' := 2) e8 ?_
        refine zr_iload dL_law_1211 rfl ?_
        refine zr_icmp_eq (tgt := 1218) dL_law_1213 (by decide) (fun c_1213 => ?_) (fun c_1213 => absurd (by decide) c_1213)
        refine zr_iload dL_law_1218 rfl ?_
        refine zr_if_ne (tgt := 1234) dL_law_1220 (by decide) (fun c_1220 => ?_) (fun c_1220 => absurd c_1220 (by decide))
        refine zr_goto (tgt := 2861) dL_law_1234 (by decide) ?_
        exact zr_less (by omega) (by omega) (kk u _ _ _ _ _ hI F3 ko2)
      · skip
        cases hk

