/-! the line of the reference, its denials, undo, snapshot -/
theorem zchr_md (x : Int32) : ((zchr x).toUInt32 % 65536).toInt32 = zchr x := zchr_vp x
theorem zGr.cpn {B : zDk} {f f' t : Nat → Int32} {p : Nat} (h : zGr B f') (hB : zDw B) (e : ∀ k, k < 82 → f (p + k) = f' k) : zGr B (zcpn f t p 0 82) := by
  refine h.cg hB (fun k hk => ?_)
  show (if 0 ≤ k ∧ k < 0 + 82 then f (p + (k - 0)) else _) = f' k
  rw [if_pos (by omega)]
  exact e k hk
set_option maxHeartbeats 400000 in
set_option maxRecDepth 100000 in
theorem qX10_writes {X : zX} (hX : X.1.stackTraces = false) {σ : zS} {y : Nat} {F : Nat → Int32} {l : Nat} {sg : Nat → Int32} {c : Int32} (h0 : σ.1 y = zmO y F) (h6 : σ.1 (y + 6) = .inl (1, 400, .inl sg)) (hl : F 16 = nI l) (l4 : l < 400) (hc : (c.toUInt32 % 65536).toInt32 = c) : zMet X mX10_writes yX10_writes 0 0 0 [.ref y, .int c] σ (zV (fun s => zFr σ s (fun q => q = y ∨ q = y + 6) ∧ s.1 y = zmO y (upd F 16 (nI (l + 1))) ∧ s.1 (y + 6) = .inl (1, 400, .inl (upd sg l c)))) := by
  refine zMet_of (ls := [some (.ref y), some (.int c)]) rfl (by decide +kernel) rfl (fun h => by cases h) hX (Nat.le_of_ble_eq_true rfl) rfl ?_
  refine zr_aload_n dX10_writes_0 rfl ?_
  refine zr_getM (v := .ref (y + 6)) dX10_writes_1 fX10_29 h0 rfl ?_
  refine zr_aload_n dX10_writes_4 rfl ?_
  refine zr_getM (v := .int (F 16)) dX10_writes_5 fX10_305 h0 rfl ?_
  refine zr_eqi (x' := nI l) (hl) ?_
  refine zr_iload_n dX10_writes_8 rfl ?_
  refine zr_i2c dX10_writes_9 ?_
  refine zr_eqi (x' := c) (hc) ?_
  refine zr_castore dX10_writes_10 h6 (vp_in_nI (n := l) (by omega) (by omega)) (hc) ?_
  rw [nI_clamp (n := l) (by omega)]
  refine zr_sig (fun ks1 e_ks1 => ?_)
  have kh2 : ks1.1 y = zmO y F := by rw [e_ks1, zup_ne _ _ (by omega)]; exact h0
  have kh3 : ks1.1 (y + 6) = .inl (1, 400, .inl (upd sg l c)) := by rw [e_ks1]; exact zup_at _ _ _
  have kF4 := zFr.put zFr.rf (P := (fun q => q = y ∨ q = y + 6)) e_ks1 (by first | omega | simp)
  refine zr_aload_n dX10_writes_11 rfl ?_
  refine zr_dup dX10_writes_12 rfl ?_
  refine zr_getM (v := .int (F 16)) dX10_writes_13 fX10_305 kh2 rfl ?_
  refine zr_eqi (x' := nI l) (hl) ?_
  refine zr_iconst (v := 1) dX10_writes_16 (by decide) ?_
  refine zr_iadd dX10_writes_17 ?_
  refine zr_eqi (x' := nI (l + 1)) (nI_add l 1) ?_
  refine zr_putM (v := nI (l + 1)) dX10_writes_18 pX10_305 kh2 (rfl) (rfl) (Nat.le_of_ble_eq_true rfl) (zms_16 _ _ _) ?_
  refine zr_sig (fun ks5 e_ks5 => ?_)
  have kh6 : ks5.1 y = zmO y (upd F 16 (nI (l + 1))) := by rw [e_ks5]; exact zup_at _ _ _
  have kh7 : ks5.1 (y + 6) = .inl (1, 400, .inl (upd sg l c)) := by rw [e_ks5, zup_ne _ _ (by omega)]; exact kh3
  have kF8 := zFr.put kF4 e_ks5 (by first | omega | simp)
  exact zr_return dX10_writes_21 rfl (⟨rfl, kF8, kh6, kh7⟩)

set_option maxHeartbeats 400000 in
set_option maxRecDepth 100000 in
theorem l_ww {X : zX} (hX : X.1.stackTraces = false) {σ : zS} {y : Nat} {F : Nat → Int32} {sg wk : Nat → Int32} {L : List Int32} (h0 : σ.1 y = zmO y F) (hF : F 19 = nI L.length) (hL4 : L.length ≤ 400) (h7 : σ.1 (y + 7) = .inl (0, 1300, .inl wk)) (hwk : zP wk L.length = L) : ∀ (j i : Nat) (s : zS), i + j = L.length → (zFr σ s (fun q => q = y ∨ q = y + 6)) → (s.1 y = zmO y (upd F 16 (nI i))) → (s.1 (y + 6) = .inl (1, 400, .inl (zcpy sg (fun t => zchr (wv L t)) i))) → zW X mX10_writesWork 1 0 0 (zV (fun s => zFr σ s (fun q => q = y ∨ q = y + 6) ∧ s.1 y = zmO y (upd F 16 (nI L.length)) ∧ s.1 (y + 6) = .inl (1, 400, .inl (zcpy sg (fun t => zchr (wv L t)) L.length)))) 7 [some (.ref y), some (.int (nI i))] [] s := by
  intro j
  induction j with
  | zero =>
    intro i s hi hFr k0 k6
    have k7 := zFr.get hFr (by omega) h7
    refine zr_iload_n dX10_writesWork_7 rfl ?_
    refine zr_aload_n dX10_writesWork_8 rfl ?_
    refine zr_getM (v := .int (F 19)) dX10_writesWork_9 fX10_79 k0 rfl ?_
    refine zr_eqi (x' := nI L.length) (hF) ?_
    refine zr_icmp_ge (tgt := 34) dX10_writesWork_12 (by decide) (fun c_12 => ?_) (fun c_12 => absurd ((nI_leI (a := L.length) (b := i) (by omega) (by omega)).mpr (by omega)) c_12)
    exact zr_return dX10_writesWork_34 rfl (by have e1 : i = L.length := (by omega); rw [← e1]; exact ⟨rfl, hFr, k0, k6⟩)
  | succ j ih =>
    intro i s hi hFr k0 k6
    have k7 := zFr.get hFr (by omega) h7
    refine zr_iload_n dX10_writesWork_7 rfl ?_
    refine zr_aload_n dX10_writesWork_8 rfl ?_
    refine zr_getM (v := .int (F 19)) dX10_writesWork_9 fX10_79 k0 rfl ?_
    refine zr_eqi (x' := nI L.length) (hF) ?_
    refine zr_icmp_ge (tgt := 34) dX10_writesWork_12 (by decide) (fun c_12 => absurd c_12 (fun h => absurd ((nI_leI (a := L.length) (b := i) (by omega) (by omega)).mp h) (by omega))) (fun c_12 => ?_)
    refine zr_aload_n dX10_writesWork_15 rfl ?_
    refine zr_aload_n dX10_writesWork_16 rfl ?_
    refine zr_getM (v := .ref (y + 7)) dX10_writesWork_17 fX10_33 k0 rfl ?_
    refine zr_iload_n dX10_writesWork_20 rfl ?_
    refine zr_iaload dX10_writesWork_21 k7 (vp_in_nI (n := i) (by omega) (by omega)) ?_
    rw [nI_clamp (n := i) (by omega)]
    refine zr_eqi (x' := (wv L i)) (by have z := zP_get (f := wk) (n := L.length) (k := i) (by omega); rw [hwk] at z; exact z.symm) ?_
    refine zr_pSi [.ref y] dX10_writesWork_22 vX10_161 (qX10_written hX (l := (wv L i))) (by decide) (by decide) (by decide) rfl rfl (Nat.le_of_ble_eq_true rfl) rfl ?_
    refine zr_callVv [] dX10_writesWork_25 vX10_308 (qX10_writes hX (l := i) (c := (zchr (wv L i))) k0 k6 rfl (by first | omega | (rw [zWd_l]; omega)) (by first | exact zchr_md _ | decide)) k0 (by decide) (by decide) (by decide) rfl rfl (Nat.le_of_ble_eq_true rfl) (by decide) rfl (fun s_kr1 h_kr1 => ?_)
    obtain ⟨F_kr1, g0_kr1, g1_kr1⟩ := h_kr1
    have kh2 : s_kr1.1 (y + 7) = .inl (0, 1300, .inl wk) := zFr.get F_kr1 (by omega) k7
    have kF3 := zFr.tr hFr F_kr1 (by intro q hq; omega)
    refine zr_iinc (v := nI (i + 1)) (ls' := [some (.ref y), some (.int (nI (i + 1)))]) dX10_writesWork_28 rfl (nI_1 _) (by decide) rfl ?_
    refine zr_goto (tgt := 7) dX10_writesWork_31 (by decide) ?_
    exact ih (i + 1) _ (by omega) (kF3) (g0_kr1) (by rw [← zcpy_s]; exact g1_kr1)

set_option maxHeartbeats 400000 in
set_option maxRecDepth 100000 in
theorem qX10_writesWork {X : zX} (hX : X.1.stackTraces = false) {σ : zS} {y : Nat} {F : Nat → Int32} {sg wk : Nat → Int32} {L : List Int32} (h0 : σ.1 y = zmO y F) (h6 : σ.1 (y + 6) = .inl (1, 400, .inl sg)) (hF : F 19 = nI L.length) (hL4 : L.length ≤ 400) (h7 : σ.1 (y + 7) = .inl (0, 1300, .inl wk)) (hwk : zP wk L.length = L) : zMet X mX10_writesWork yX10_writesWork 1 0 0 [.ref y] σ (zV (fun s => zFr σ s (fun q => q = y ∨ q = y + 6) ∧ s.1 y = zmO y (upd F 16 (nI L.length)) ∧ s.1 (y + 6) = .inl (1, 400, .inl (zcpy sg (fun t => zchr (wv L t)) L.length)))) := by
  refine zMet_of (ls := [some (.ref y), none]) rfl (by decide +kernel) rfl (fun h => by cases h) hX (Nat.le_of_ble_eq_true rfl) rfl ?_
  refine zr_aload_n dX10_writesWork_0 rfl ?_
  refine zr_iconst (v := 0) dX10_writesWork_1 (by decide) ?_
  refine zr_putM (v := 0) dX10_writesWork_2 pX10_305 h0 (rfl) (rfl) (Nat.le_of_ble_eq_true rfl) (zms_16 _ _ _) ?_
  refine zr_sig (fun ks1 e_ks1 => ?_)
  have kh2 : ks1.1 y = zmO y (upd F 16 0) := by rw [e_ks1]; exact zup_at _ _ _
  have kh3 : ks1.1 (y + 6) = .inl (1, 400, .inl sg) := by rw [e_ks1, zup_ne _ _ (by omega)]; exact h6
  have kh4 : ks1.1 (y + 7) = .inl (0, 1300, .inl wk) := by rw [e_ks1, zup_ne _ _ (by omega)]; exact h7
  have kF5 := zFr.put zFr.rf (P := (fun q => q = y ∨ q = y + 6)) e_ks1 (by first | omega | simp)
  refine zr_iconst (v := 0) dX10_writesWork_5 (by decide) ?_
  refine zr_istore_n (ls' := [some (.ref y), some (.int 0)]) dX10_writesWork_6 rfl (by decide) rfl ?_
  exact l_ww hX h0 hF hL4 h7 hwk L.length 0 _ (by omega) kF5 kh2 (by rw [zcpy_0]; exact kh3)

set_option maxHeartbeats 400000 in
set_option maxRecDepth 100000 in
theorem qX10_writeCase {X : zX} (hX : X.1.stackTraces = false) {σ : zS} {y : Nat} {w tm cd dn : Int32} {K : zDk} {A S : zDk} {m : Nat} {U : Nat → zDk} {n : Nat} {T : Nat → Int32} {ll : Nat} {ln : Nat → Int32} {hs kf ld dt dc : Int32} {i : Nat} (hM : zMo y w tm cd dn K A S m U n T ll ln hs kf ld dt dc σ) (gA : zGd A) (hi : i < kC A) : zMet X mX10_writeCase yX10_writeCase 4 0 0 [.ref y, .int (nI i)] σ (zI (fun y_ s => y_ = nI (kN A i + 2) ∧ zFr σ s (zMq y) ∧ zMo y w tm 0 0 K A S m U n T (kN A i + 2) (zln A i) hs kf ld dt dc s)) := by
  refine zMet_of (ls := [some (.ref y), some (.int (nI i))]) rfl (by decide +kernel) rfl (fun h => by cases h) hX (Nat.le_of_ble_eq_true rfl) rfl ?_
  obtain ⟨F, g, kp, sv, bf, ip, sg, td, h0, hf, h1, h2, h3, h4, h5, h6, h11, hWa, hC, hX9, hOt, gr, gS, gK, hm8, gU, hn60, hT, hll, hln⟩ := id hM
  obtain ⟨f4, f5, f6, f7, f8, f9, f10, f11, f13, f14, f16, f27⟩ := id hf
  have hA := gA.1
  obtain ⟨r0, r1, rc, rp⟩ := id gr
  obtain ⟨hC8, hP8, hW⟩ := id hA
  have n16 := (hW i (by omega)).1
  refine zr_aload_n dX10_writeCase_0 rfl ?_
  refine zr_iload_n dX10_writeCase_1 rfl ?_
  refine zr_callVi [] dX10_writeCase_2 vX10_155 (qX10_isNone hX (i := i) h0 h1 r0 (by omega) hi) h0 (by decide) (by decide) (by decide) rfl rfl (Nat.le_of_ble_eq_true rfl) (by decide) rfl (fun kr1 s_kr1 h_kr1 => ?_)
  obtain ⟨e_kr1, F_kr1, g0_kr1⟩ := h_kr1
  have kh2 : s_kr1.1 (y + 1) = .inl (0, 82, .inl g) := zFr.get F_kr1 (by omega) h1
  have kh3 : s_kr1.1 (y + 2) = .inl (0, 656, .inl kp) := zFr.get F_kr1 (by omega) h2
  have kh4 : s_kr1.1 (y + 3) = .inl (0, 82, .inl sv) := zFr.get F_kr1 (by omega) h3
  have kh5 : s_kr1.1 (y + 4) = .inl (0, 82, .inl bf) := zFr.get F_kr1 (by omega) h4
  have kh6 : s_kr1.1 (y + 5) = .inl (0, 60, .inl ip) := zFr.get F_kr1 (by omega) h5
  have kh7 : s_kr1.1 (y + 6) = .inl (1, 400, .inl sg) := zFr.get F_kr1 (by omega) h6
  have kh8 : s_kr1.1 (y + 11) = .inl (0, 93, .inl td) := zFr.get F_kr1 (by omega) h11
  have kR9 : zWa y s_kr1 := zWa.fr hWa F_kr1 (by intro q h1 h2 h3; (try simp only [zIn, zJf] at h3); omega)
  have kR10 : zCy y s_kr1 := zCy.fr hC F_kr1 (by intro q h1 h2 h3; (try simp only [zIn, zJf] at h3); omega)
  have kR11 : zXa y s_kr1 := zXa.fr hX9 F_kr1 (by intro q h1 h2 h3; (try simp only [zIn, zJf] at h3); omega)
  have kR12 : zOa y s_kr1 := zOa.fr hOt F_kr1 (by intro q h1 h2 h3; (try simp only [zIn, zJf] at h3); omega)
  have kF13 := zFr.tr zFr.rf (P := zMq y) F_kr1 (by intro q hq; unfold zMq; omega)
  obtain rfl := e_kr1.symm
  refine zr_if_eq (tgt := 10) dX10_writeCase_5 (by decide) (fun c_5 => ?_) (fun c_5 => absurd (by decide) c_5)
  refine zr_aload_n dX10_writeCase_10 rfl ?_
  refine zr_iload_n dX10_writeCase_11 rfl ?_
  refine zr_pSi [.ref y] dX10_writeCase_12 vX10_138 (qX10_caseAt hX (i := i)) (by decide) (by decide) (by decide) rfl rfl (Nat.le_of_ble_eq_true rfl) rfl ?_
  refine zr_callVv [] dX10_writeCase_15 vX10_128 (qM_take hX (i := i) g0_kr1 kh2 gr hA (by omega) kR9) g0_kr1 (by decide) (by decide) (by decide) rfl rfl (Nat.le_of_ble_eq_true rfl) (by decide) rfl (fun s_kr14 h_kr14 => ?_)
  obtain ⟨F_kr14, g0_kr14, r0_kr14⟩ := h_kr14
  have kh15 : s_kr14.1 (y + 1) = .inl (0, 82, .inl g) := zFr.get F_kr14 (by omega) kh2
  have kh16 : s_kr14.1 (y + 2) = .inl (0, 656, .inl kp) := zFr.get F_kr14 (by omega) kh3
  have kh17 : s_kr14.1 (y + 3) = .inl (0, 82, .inl sv) := zFr.get F_kr14 (by omega) kh4
  have kh18 : s_kr14.1 (y + 4) = .inl (0, 82, .inl bf) := zFr.get F_kr14 (by omega) kh5
  have kh19 : s_kr14.1 (y + 5) = .inl (0, 60, .inl ip) := zFr.get F_kr14 (by omega) kh6
  have kh20 : s_kr14.1 (y + 6) = .inl (1, 400, .inl sg) := zFr.get F_kr14 (by omega) kh7
  have kh21 : s_kr14.1 (y + 11) = .inl (0, 93, .inl td) := zFr.get F_kr14 (by omega) kh8
  have kR22 : zCy y s_kr14 := zCy.fr kR10 F_kr14 (by intro q h1 h2 h3; (try simp only [zIn, zJf] at h3); omega)
  have kR23 : zXa y s_kr14 := zXa.fr kR11 F_kr14 (by intro q h1 h2 h3; (try simp only [zIn, zJf] at h3); omega)
  have kR24 : zOa y s_kr14 := zOa.fr kR12 F_kr14 (by intro q h1 h2 h3; (try simp only [zIn, zJf] at h3); omega)
  have kF25 := zFr.tr kF13 F_kr14 (by intro q hq; unfold zMq; omega)
  refine zr_aload_n dX10_writeCase_18 rfl ?_
  obtain ⟨wk7, wc7, we7⟩ := id r0_kr14
  refine zr_callVv [] dX10_writeCase_19 vX10_311 (qX10_writesWork hX (L := (zWd A i)) g0_kr14 kh20 (by rw [zWd_l]; rfl) (by rw [zWd_l]; omega) wc7 we7) g0_kr14 (by decide) (by decide) (by decide) rfl rfl (Nat.le_of_ble_eq_true rfl) (by decide) rfl (fun s_kr26 h_kr26 => ?_)
  obtain ⟨F_kr26, g0_kr26, g1_kr26⟩ := h_kr26
  have kh27 : s_kr26.1 (y + 1) = .inl (0, 82, .inl g) := zFr.get F_kr26 (by omega) kh15
  have kh28 : s_kr26.1 (y + 2) = .inl (0, 656, .inl kp) := zFr.get F_kr26 (by omega) kh16
  have kh29 : s_kr26.1 (y + 3) = .inl (0, 82, .inl sv) := zFr.get F_kr26 (by omega) kh17
  have kh30 : s_kr26.1 (y + 4) = .inl (0, 82, .inl bf) := zFr.get F_kr26 (by omega) kh18
  have kh31 : s_kr26.1 (y + 5) = .inl (0, 60, .inl ip) := zFr.get F_kr26 (by omega) kh19
  have kh32 : s_kr26.1 (y + 11) = .inl (0, 93, .inl td) := zFr.get F_kr26 (by omega) kh21
  have kR33 : zWk y (zWd A i) s_kr26 := zWk.fr r0_kr14 F_kr26 (by intro q h1 h2 h3; (try simp only [zIn, zJf] at h3); omega)
  have kR34 : zCy y s_kr26 := zCy.fr kR22 F_kr26 (by intro q h1 h2 h3; (try simp only [zIn, zJf] at h3); omega)
  have kR35 : zXa y s_kr26 := zXa.fr kR23 F_kr26 (by intro q h1 h2 h3; (try simp only [zIn, zJf] at h3); omega)
  have kR36 : zOa y s_kr26 := zOa.fr kR24 F_kr26 (by intro q h1 h2 h3; (try simp only [zIn, zJf] at h3); omega)
  have kF37 := zFr.tr kF25 F_kr26 (by intro q hq; unfold zMq; omega)
  refine zr_aload_n dX10_writeCase_22 rfl ?_
  refine zr_bipush (v := 58) dX10_writeCase_23 (by decide) ?_
  refine zr_callVv [] dX10_writeCase_25 vX10_308 (qX10_writes hX (l := (zWd A i).length) (c := 58) g0_kr26 g1_kr26 rfl (by first | omega | (rw [zWd_l]; omega)) (by first | exact zchr_md _ | decide)) g0_kr26 (by decide) (by decide) (by decide) rfl rfl (Nat.le_of_ble_eq_true rfl) (by decide) rfl (fun s_kr38 h_kr38 => ?_)
  obtain ⟨F_kr38, g0_kr38, g1_kr38⟩ := h_kr38
  have kh39 : s_kr38.1 (y + 1) = .inl (0, 82, .inl g) := zFr.get F_kr38 (by omega) kh27
  have kh40 : s_kr38.1 (y + 2) = .inl (0, 656, .inl kp) := zFr.get F_kr38 (by omega) kh28
  have kh41 : s_kr38.1 (y + 3) = .inl (0, 82, .inl sv) := zFr.get F_kr38 (by omega) kh29
  have kh42 : s_kr38.1 (y + 4) = .inl (0, 82, .inl bf) := zFr.get F_kr38 (by omega) kh30
  have kh43 : s_kr38.1 (y + 5) = .inl (0, 60, .inl ip) := zFr.get F_kr38 (by omega) kh31
  have kh44 : s_kr38.1 (y + 11) = .inl (0, 93, .inl td) := zFr.get F_kr38 (by omega) kh32
  have kR45 : zWk y (zWd A i) s_kr38 := zWk.fr kR33 F_kr38 (by intro q h1 h2 h3; (try simp only [zIn, zJf] at h3); omega)
  have kR46 : zCy y s_kr38 := zCy.fr kR34 F_kr38 (by intro q h1 h2 h3; (try simp only [zIn, zJf] at h3); omega)
  have kR47 : zXa y s_kr38 := zXa.fr kR35 F_kr38 (by intro q h1 h2 h3; (try simp only [zIn, zJf] at h3); omega)
  have kR48 : zOa y s_kr38 := zOa.fr kR36 F_kr38 (by intro q h1 h2 h3; (try simp only [zIn, zJf] at h3); omega)
  have kF49 := zFr.tr kF37 F_kr38 (by intro q hq; unfold zMq; omega)
  refine zr_aload_n dX10_writeCase_28 rfl ?_
  refine zr_aload_n dX10_writeCase_29 rfl ?_
  refine zr_iload_n dX10_writeCase_30 rfl ?_
  refine zr_iconst (v := 1) dX10_writeCase_31 (by decide) ?_
  refine zr_pVi [.ref y] dX10_writeCase_32 vX10_149 (qX10_of hX (i := i) (k := 1) g0_kr38 kh39 (by omega)) g0_kr38 (by decide) (by decide) (by decide) rfl rfl (Nat.le_of_ble_eq_true rfl) (by decide) rfl ?_
  refine zr_eqi (x' := (zvd A i)) ((rc i hi).2.1) ?_
  refine zr_if_ne (tgt := 43) dX10_writeCase_35 (by decide) (fun c_35 => ?_) (fun c_35 => ?_)
  · refine zr_aload_n dX10_writeCase_43 rfl ?_
    refine zr_iload_n dX10_writeCase_44 rfl ?_
    refine zr_iconst (v := 1) dX10_writeCase_45 (by decide) ?_
    refine zr_pVi [.ref y] dX10_writeCase_46 vX10_149 (qX10_of hX (i := i) (k := 1) g0_kr38 kh39 (by omega)) g0_kr38 (by decide) (by decide) (by decide) rfl rfl (Nat.le_of_ble_eq_true rfl) (by decide) rfl ?_
    refine zr_eqi (x' := (zvd A i)) ((rc i hi).2.1) ?_
    refine zr_iconst (v := 1) dX10_writeCase_49 (by decide) ?_
    refine zr_icmp_ne (tgt := 58) dX10_writeCase_50 (by decide) (fun c_50 => ?_) (fun c_50 => ?_)
    · refine zr_bipush (v := 102) dX10_writeCase_58 (by decide) ?_
      refine zr_callVv [] dX10_writeCase_60 vX10_308 (qX10_writes hX (l := (zWd A i).length + 1) (c := 102) g0_kr38 g1_kr38 rfl (by first | omega | (rw [zWd_l]; omega)) (by first | exact zchr_md _ | decide)) g0_kr38 (by decide) (by decide) (by decide) rfl rfl (Nat.le_of_ble_eq_true rfl) (by decide) rfl (fun s_kr50 h_kr50 => ?_)
      obtain ⟨F_kr50, g0_kr50, g1_kr50⟩ := h_kr50
      have kh51 : s_kr50.1 (y + 1) = .inl (0, 82, .inl g) := zFr.get F_kr50 (by omega) kh39
      have kh52 : s_kr50.1 (y + 2) = .inl (0, 656, .inl kp) := zFr.get F_kr50 (by omega) kh40
      have kh53 : s_kr50.1 (y + 3) = .inl (0, 82, .inl sv) := zFr.get F_kr50 (by omega) kh41
      have kh54 : s_kr50.1 (y + 4) = .inl (0, 82, .inl bf) := zFr.get F_kr50 (by omega) kh42
      have kh55 : s_kr50.1 (y + 5) = .inl (0, 60, .inl ip) := zFr.get F_kr50 (by omega) kh43
      have kh56 : s_kr50.1 (y + 11) = .inl (0, 93, .inl td) := zFr.get F_kr50 (by omega) kh44
      have kR57 : zWk y (zWd A i) s_kr50 := zWk.fr kR45 F_kr50 (by intro q h1 h2 h3; (try simp only [zIn, zJf] at h3); omega)
      have kR58 : zCy y s_kr50 := zCy.fr kR46 F_kr50 (by intro q h1 h2 h3; (try simp only [zIn, zJf] at h3); omega)
      have kR59 : zXa y s_kr50 := zXa.fr kR47 F_kr50 (by intro q h1 h2 h3; (try simp only [zIn, zJf] at h3); omega)
      have kR60 : zOa y s_kr50 := zOa.fr kR48 F_kr50 (by intro q h1 h2 h3; (try simp only [zIn, zJf] at h3); omega)
      have kF61 := zFr.tr kF49 F_kr50 (by intro q hq; unfold zMq; omega)
      refine zr_aload_n dX10_writeCase_63 rfl ?_
      refine zr_getM (v := .int (nI ((zWd A i).length + 1 + 1))) dX10_writeCase_64 fX10_305 g0_kr50 rfl ?_
      refine zr_ireturn dX10_writeCase_67 rfl (rfl) ?_
      have eN : (zWd A i).length = kN A i := zWd_l A i
      have lW : ∀ k, k < kN A i + 2 → (upd (upd (zcpy sg (fun t => zchr (wv (zWd A i) t)) (zWd A i).length) ((zWd A i).length) 58) ((zWd A i).length + 1) 102) k = zln A i k := by
        intro k hk; unfold zln; simp only [upd, zcpy]; rw [eN]
        by_cases k1 : k = kN A i + 1
        · rw [if_pos k1, if_neg (by omega), if_neg (by omega)]; unfold zmark; rw [if_neg (fun q => c_35 ((zvd0 A i).mpr q)), if_pos (Classical.not_not.mp (fun q => c_50 ((zvd1 A i).mpr q)))]
        · rw [if_neg k1]; by_cases k2 : k = kN A i
          · rw [if_pos k2, if_neg (by omega), if_pos k2]
          · rw [if_neg k2, if_pos (by omega), if_pos (by omega)]; exact congrArg zchr (zP_get (f := kL A i) (by omega))
      exact ⟨_, rfl, by rw [eN], kF61, ⟨_, _, _, _, _, _, _, _, g0_kr50, ⟨f4, f5, f6, rfl, rfl, f9, f10, f11, f13, f14, (by rw [eN]; rfl), f27⟩, kh51, kh52, kh53, kh54, kh55, g1_kr50, kh56, (kR57).wa, kR58, kR59, kR60, gr, gS, gK, hm8, gU, hn60, hT, (by omega), lW⟩⟩
    · refine zr_bipush (v := 116) dX10_writeCase_53 (by decide) ?_
      refine zr_goto (tgt := 60) dX10_writeCase_55 (by decide) ?_
      refine zr_callVv [] dX10_writeCase_60 vX10_308 (qX10_writes hX (l := (zWd A i).length + 1) (c := 116) g0_kr38 g1_kr38 rfl (by first | omega | (rw [zWd_l]; omega)) (by first | exact zchr_md _ | decide)) g0_kr38 (by decide) (by decide) (by decide) rfl rfl (Nat.le_of_ble_eq_true rfl) (by decide) rfl (fun s_kr62 h_kr62 => ?_)
      obtain ⟨F_kr62, g0_kr62, g1_kr62⟩ := h_kr62
      have kh63 : s_kr62.1 (y + 1) = .inl (0, 82, .inl g) := zFr.get F_kr62 (by omega) kh39
      have kh64 : s_kr62.1 (y + 2) = .inl (0, 656, .inl kp) := zFr.get F_kr62 (by omega) kh40
      have kh65 : s_kr62.1 (y + 3) = .inl (0, 82, .inl sv) := zFr.get F_kr62 (by omega) kh41
      have kh66 : s_kr62.1 (y + 4) = .inl (0, 82, .inl bf) := zFr.get F_kr62 (by omega) kh42
      have kh67 : s_kr62.1 (y + 5) = .inl (0, 60, .inl ip) := zFr.get F_kr62 (by omega) kh43
      have kh68 : s_kr62.1 (y + 11) = .inl (0, 93, .inl td) := zFr.get F_kr62 (by omega) kh44
      have kR69 : zWk y (zWd A i) s_kr62 := zWk.fr kR45 F_kr62 (by intro q h1 h2 h3; (try simp only [zIn, zJf] at h3); omega)
      have kR70 : zCy y s_kr62 := zCy.fr kR46 F_kr62 (by intro q h1 h2 h3; (try simp only [zIn, zJf] at h3); omega)
      have kR71 : zXa y s_kr62 := zXa.fr kR47 F_kr62 (by intro q h1 h2 h3; (try simp only [zIn, zJf] at h3); omega)
      have kR72 : zOa y s_kr62 := zOa.fr kR48 F_kr62 (by intro q h1 h2 h3; (try simp only [zIn, zJf] at h3); omega)
      have kF73 := zFr.tr kF49 F_kr62 (by intro q hq; unfold zMq; omega)
      refine zr_aload_n dX10_writeCase_63 rfl ?_
      refine zr_getM (v := .int (nI ((zWd A i).length + 1 + 1))) dX10_writeCase_64 fX10_305 g0_kr62 rfl ?_
      refine zr_ireturn dX10_writeCase_67 rfl (rfl) ?_
      have eN : (zWd A i).length = kN A i := zWd_l A i
      have lW : ∀ k, k < kN A i + 2 → (upd (upd (zcpy sg (fun t => zchr (wv (zWd A i) t)) (zWd A i).length) ((zWd A i).length) 58) ((zWd A i).length + 1) 116) k = zln A i k := by
        intro k hk; unfold zln; simp only [upd, zcpy]; rw [eN]
        by_cases k1 : k = kN A i + 1
        · rw [if_pos k1, if_neg (by omega), if_neg (by omega)]; unfold zmark; rw [if_neg (fun q => c_35 ((zvd0 A i).mpr q)), if_neg ((zvd1 A i).mp c_50)]
        · rw [if_neg k1]; by_cases k2 : k = kN A i
          · rw [if_pos k2, if_neg (by omega), if_pos k2]
          · rw [if_neg k2, if_pos (by omega), if_pos (by omega)]; exact congrArg zchr (zP_get (f := kL A i) (by omega))
      exact ⟨_, rfl, by rw [eN], kF73, ⟨_, _, _, _, _, _, _, _, g0_kr62, ⟨f4, f5, f6, rfl, rfl, f9, f10, f11, f13, f14, (by rw [eN]; rfl), f27⟩, kh63, kh64, kh65, kh66, kh67, g1_kr62, kh68, (kR69).wa, kR70, kR71, kR72, gr, gS, gK, hm8, gU, hn60, hT, (by omega), lW⟩⟩
  · refine zr_bipush (v := 63) dX10_writeCase_38 (by decide) ?_
    refine zr_goto (tgt := 60) dX10_writeCase_40 (by decide) ?_
    refine zr_callVv [] dX10_writeCase_60 vX10_308 (qX10_writes hX (l := (zWd A i).length + 1) (c := 63) g0_kr38 g1_kr38 rfl (by first | omega | (rw [zWd_l]; omega)) (by first | exact zchr_md _ | decide)) g0_kr38 (by decide) (by decide) (by decide) rfl rfl (Nat.le_of_ble_eq_true rfl) (by decide) rfl (fun s_kr74 h_kr74 => ?_)
    obtain ⟨F_kr74, g0_kr74, g1_kr74⟩ := h_kr74
    have kh75 : s_kr74.1 (y + 1) = .inl (0, 82, .inl g) := zFr.get F_kr74 (by omega) kh39
    have kh76 : s_kr74.1 (y + 2) = .inl (0, 656, .inl kp) := zFr.get F_kr74 (by omega) kh40
    have kh77 : s_kr74.1 (y + 3) = .inl (0, 82, .inl sv) := zFr.get F_kr74 (by omega) kh41
    have kh78 : s_kr74.1 (y + 4) = .inl (0, 82, .inl bf) := zFr.get F_kr74 (by omega) kh42
    have kh79 : s_kr74.1 (y + 5) = .inl (0, 60, .inl ip) := zFr.get F_kr74 (by omega) kh43
    have kh80 : s_kr74.1 (y + 11) = .inl (0, 93, .inl td) := zFr.get F_kr74 (by omega) kh44
    have kR81 : zWk y (zWd A i) s_kr74 := zWk.fr kR45 F_kr74 (by intro q h1 h2 h3; (try simp only [zIn, zJf] at h3); omega)
    have kR82 : zCy y s_kr74 := zCy.fr kR46 F_kr74 (by intro q h1 h2 h3; (try simp only [zIn, zJf] at h3); omega)
    have kR83 : zXa y s_kr74 := zXa.fr kR47 F_kr74 (by intro q h1 h2 h3; (try simp only [zIn, zJf] at h3); omega)
    have kR84 : zOa y s_kr74 := zOa.fr kR48 F_kr74 (by intro q h1 h2 h3; (try simp only [zIn, zJf] at h3); omega)
    have kF85 := zFr.tr kF49 F_kr74 (by intro q hq; unfold zMq; omega)
    refine zr_aload_n dX10_writeCase_63 rfl ?_
    refine zr_getM (v := .int (nI ((zWd A i).length + 1 + 1))) dX10_writeCase_64 fX10_305 g0_kr74 rfl ?_
    refine zr_ireturn dX10_writeCase_67 rfl (rfl) ?_
    have eN : (zWd A i).length = kN A i := zWd_l A i
    have lW : ∀ k, k < kN A i + 2 → (upd (upd (zcpy sg (fun t => zchr (wv (zWd A i) t)) (zWd A i).length) ((zWd A i).length) 58) ((zWd A i).length + 1) 63) k = zln A i k := by
      intro k hk; unfold zln; simp only [upd, zcpy]; rw [eN]
      by_cases k1 : k = kN A i + 1
      · rw [if_pos k1, if_neg (by omega), if_neg (by omega)]; unfold zmark; rw [if_pos ((zvd0 A i).mp c_35)]
      · rw [if_neg k1]; by_cases k2 : k = kN A i
        · rw [if_pos k2, if_neg (by omega), if_pos k2]
        · rw [if_neg k2, if_pos (by omega), if_pos (by omega)]; exact congrArg zchr (zP_get (f := kL A i) (by omega))
    exact ⟨_, rfl, by rw [eN], kF85, ⟨_, _, _, _, _, _, _, _, g0_kr74, ⟨f4, f5, f6, rfl, rfl, f9, f10, f11, f13, f14, (by rw [eN]; rfl), f27⟩, kh75, kh76, kh77, kh78, kh79, g1_kr74, kh80, (kR81).wa, kR82, kR83, kR84, gr, gS, gK, hm8, gU, hn60, hT, (by omega), lW⟩⟩

set_option maxHeartbeats 400000 in
set_option maxRecDepth 100000 in
theorem qX10_writeCaseX {X : zX} (hX : X.1.stackTraces = false) {σ : zS} {y : Nat} {w tm cd dn : Int32} {K : zDk} {A S : zDk} {m : Nat} {U : Nat → zDk} {n : Nat} {T : Nat → Int32} {ll : Nat} {ln : Nat → Int32} {hs kf ld dt dc : Int32} {p : Int32} (hM : zMo y w tm cd dn K A S m U n T ll ln hs kf ld dt dc σ) (gA : zGd A) (hno : ¬ (¬ p < 0 ∧ p < nI (kC A))) : zMet X mX10_writeCase yX10_writeCase 4 0 0 [.ref y, .int p] σ (zI (fun y_ s => True ∧ zFr σ s (zMq y) ∧ zMo y w tm 1 0 K A S m U n T ll ln hs kf ld dt dc s)) := by
  refine zMet_of (ls := [some (.ref y), some (.int p)]) rfl (by decide +kernel) rfl (fun h => by cases h) hX (Nat.le_of_ble_eq_true rfl) rfl ?_
  obtain ⟨F, g, kp, sv, bf, ip, sg, td, h0, hf, h1, h2, h3, h4, h5, h6, h11, hWa, hC, hX9, hOt, gr, gS, gK, hm8, gU, hn60, hT, hll, hln⟩ := id hM
  obtain ⟨f4, f5, f6, f7, f8, f9, f10, f11, f13, f14, f16, f27⟩ := id hf
  have hA := gA.1
  obtain ⟨r0, r1, rc, rp⟩ := id gr
  obtain ⟨hC8, hP8, hW⟩ := id hA
  refine zr_aload_n dX10_writeCase_0 rfl ?_
  refine zr_iload_n dX10_writeCase_1 rfl ?_
  refine zr_callVi [] dX10_writeCase_2 vX10_155 (qX10_isNoneX hX h0 h1 r0 (by omega) hno) h0 (by decide) (by decide) (by decide) rfl rfl (Nat.le_of_ble_eq_true rfl) (by decide) rfl (fun kr1 s_kr1 h_kr1 => ?_)
  obtain ⟨e_kr1, F_kr1, g0_kr1⟩ := h_kr1
  have kh2 : s_kr1.1 (y + 1) = .inl (0, 82, .inl g) := zFr.get F_kr1 (by omega) h1
  have kh3 : s_kr1.1 (y + 2) = .inl (0, 656, .inl kp) := zFr.get F_kr1 (by omega) h2
  have kh4 : s_kr1.1 (y + 3) = .inl (0, 82, .inl sv) := zFr.get F_kr1 (by omega) h3
  have kh5 : s_kr1.1 (y + 4) = .inl (0, 82, .inl bf) := zFr.get F_kr1 (by omega) h4
  have kh6 : s_kr1.1 (y + 5) = .inl (0, 60, .inl ip) := zFr.get F_kr1 (by omega) h5
  have kh7 : s_kr1.1 (y + 6) = .inl (1, 400, .inl sg) := zFr.get F_kr1 (by omega) h6
  have kh8 : s_kr1.1 (y + 11) = .inl (0, 93, .inl td) := zFr.get F_kr1 (by omega) h11
  have kR9 : zWa y s_kr1 := zWa.fr hWa F_kr1 (by intro q h1 h2 h3; (try simp only [zIn, zJf] at h3); omega)
  have kR10 : zCy y s_kr1 := zCy.fr hC F_kr1 (by intro q h1 h2 h3; (try simp only [zIn, zJf] at h3); omega)
  have kR11 : zXa y s_kr1 := zXa.fr hX9 F_kr1 (by intro q h1 h2 h3; (try simp only [zIn, zJf] at h3); omega)
  have kR12 : zOa y s_kr1 := zOa.fr hOt F_kr1 (by intro q h1 h2 h3; (try simp only [zIn, zJf] at h3); omega)
  have kF13 := zFr.tr zFr.rf (P := zMq y) F_kr1 (by intro q hq; unfold zMq; omega)
  obtain rfl := e_kr1.symm
  refine zr_if_eq (tgt := 10) dX10_writeCase_5 (by decide) (fun c_5 => absurd c_5 (by decide)) (fun c_5 => ?_)
  refine zr_iconst (v := 0) dX10_writeCase_8 (by decide) ?_
  exact zr_ireturn dX10_writeCase_9 rfl (rfl) (⟨_, rfl, trivial, kF13, ⟨_, _, _, _, _, _, _, _, g0_kr1, ⟨f4, f5, f6, rfl, rfl, f9, f10, f11, f13, f14, f16, f27⟩, kh2, kh3, kh4, kh5, kh6, kh7, kh8, kR9, kR10, kR11, kR12, gr, gS, gK, hm8, gU, hn60, hT, hll, hln⟩⟩)

set_option maxHeartbeats 400000 in
set_option maxRecDepth 100000 in
theorem qX10_writeRelaxed {X : zX} (hX : X.1.stackTraces = false) {σ : zS} {y : Nat} {w tm cd dn : Int32} {K : zDk} {A S : zDk} {m : Nat} {U : Nat → zDk} {n : Nat} {T : Nat → Int32} {ll : Nat} {ln : Nat → Int32} {hs kf ld dt dc : Int32} {i : Nat} {q : Nat × List Int32} (hM : zMo y w tm cd dn K A S m U n T ll ln hs kf ld dt dc σ) (gA : zGd A) (hi : i < kC A) (hO : zRn 2000 [] (zWd A i) = some q) : zMet X mX10_writeRelaxed yX10_writeRelaxed 4 0 0 [.ref y, .int (nI i)] σ (zI (fun y_ s => y_ = nI q.2.length ∧ zFr σ s (zMq y) ∧ zMo y w tm 0 0 K A S m U n T q.2.length (fun k => zchr (wv q.2 k)) hs kf ld dt dc s)) := by
  refine zMet_of (ls := [some (.ref y), some (.int (nI i))]) rfl (by decide +kernel) rfl (fun h => by cases h) hX (Nat.le_of_ble_eq_true rfl) rfl ?_
  obtain ⟨F, g, kp, sv, bf, ip, sg, td, h0, hf, h1, h2, h3, h4, h5, h6, h11, hWa, hC, hX9, hOt, gr, gS, gK, hm8, gU, hn60, hT, hll, hln⟩ := id hM
  obtain ⟨f4, f5, f6, f7, f8, f9, f10, f11, f13, f14, f16, f27⟩ := id hf
  have hA := gA.1
  obtain ⟨r0, r1, rc, rp⟩ := id gr
  obtain ⟨hC8, hP8, hW⟩ := id hA
  refine zr_aload_n dX10_writeRelaxed_0 rfl ?_
  refine zr_iload_n dX10_writeRelaxed_1 rfl ?_
  refine zr_callVi [] dX10_writeRelaxed_2 vX10_174 (qX10_isRelaxed hX (i := i) h0 h1 gr hA hi hO hWa hC) h0 (by decide) (by decide) (by decide) rfl rfl (Nat.le_of_ble_eq_true rfl) (by decide) rfl (fun r1 s1 h_ => ?_)
  obtain ⟨rfl, u1, v1, F1, g0, kW1, kC1, q20, q400⟩ := h_
  have kh1 : s1.1 (y + 1) = .inl (0, 82, .inl g) := zFr.get F1 (by omega) h1
  have kh2 : s1.1 (y + 2) = .inl (0, 656, .inl kp) := zFr.get F1 (by omega) h2
  have kh3 : s1.1 (y + 3) = .inl (0, 82, .inl sv) := zFr.get F1 (by omega) h3
  have kh4 : s1.1 (y + 4) = .inl (0, 82, .inl bf) := zFr.get F1 (by omega) h4
  have kh5 : s1.1 (y + 5) = .inl (0, 60, .inl ip) := zFr.get F1 (by omega) h5
  have kh6 : s1.1 (y + 6) = .inl (1, 400, .inl sg) := zFr.get F1 (by omega) h6
  have kh7 : s1.1 (y + 11) = .inl (0, 93, .inl td) := zFr.get F1 (by omega) h11
  have kR8 := zXa.fr hX9 F1 (by intro q a b c; omega)
  have kR9 := zOa.fr hOt F1 (by intro q a b c; omega)
  have kF10 := zFr.tr zFr.rf (P := zMq y) F1 (by intro q hq; unfold zMq; omega)
  refine zr_if_ne (tgt := 10) dX10_writeRelaxed_5 (by decide) (fun c_5 => ?_) (fun c_5 => absurd c_5 (by decide))
  refine zr_aload_n dX10_writeRelaxed_10 rfl ?_
  obtain ⟨wk7, wc7, we7⟩ := id kW1
  refine zr_callVv [] dX10_writeRelaxed_11 vX10_311 (qX10_writesWork hX (L := q.2) g0 kh6 rfl q400 wc7 we7) g0 (by decide) (by decide) (by decide) rfl rfl (Nat.le_of_ble_eq_true rfl) (by decide) rfl (fun s_kr11 h_kr11 => ?_)
  obtain ⟨F_kr11, g0_kr11, g1_kr11⟩ := h_kr11
  have kh12 : s_kr11.1 (y + 1) = .inl (0, 82, .inl g) := zFr.get F_kr11 (by omega) kh1
  have kh13 : s_kr11.1 (y + 2) = .inl (0, 656, .inl kp) := zFr.get F_kr11 (by omega) kh2
  have kh14 : s_kr11.1 (y + 3) = .inl (0, 82, .inl sv) := zFr.get F_kr11 (by omega) kh3
  have kh15 : s_kr11.1 (y + 4) = .inl (0, 82, .inl bf) := zFr.get F_kr11 (by omega) kh4
  have kh16 : s_kr11.1 (y + 5) = .inl (0, 60, .inl ip) := zFr.get F_kr11 (by omega) kh5
  have kh17 : s_kr11.1 (y + 11) = .inl (0, 93, .inl td) := zFr.get F_kr11 (by omega) kh7
  have kR18 : zWk y q.2 s_kr11 := zWk.fr kW1 F_kr11 (by intro q h1 h2 h3; (try simp only [zIn, zJf] at h3); omega)
  have kR19 : zCy y s_kr11 := zCy.fr kC1 F_kr11 (by intro q h1 h2 h3; (try simp only [zIn, zJf] at h3); omega)
  have kR20 : zXa y s_kr11 := zXa.fr kR8 F_kr11 (by intro q h1 h2 h3; (try simp only [zIn, zJf] at h3); omega)
  have kR21 : zOa y s_kr11 := zOa.fr kR9 F_kr11 (by intro q h1 h2 h3; (try simp only [zIn, zJf] at h3); omega)
  have kF22 := zFr.tr kF10 F_kr11 (by intro q hq; unfold zMq; omega)
  refine zr_aload_n dX10_writeRelaxed_14 rfl ?_
  refine zr_getM (v := .int (nI (q.2.length))) dX10_writeRelaxed_15 fX10_305 g0_kr11 rfl ?_
  exact zr_ireturn dX10_writeRelaxed_18 rfl (rfl) (⟨_, rfl, rfl, kF22, ⟨_, _, _, _, _, _, _, _, g0_kr11, ⟨f4, f5, f6, rfl, rfl, f9, f10, f11, f13, f14, rfl, f27⟩, kh12, kh13, kh14, kh15, kh16, g1_kr11, kh17, (kR18).wa, kR19, kR20, kR21, gr, gS, gK, hm8, gU, hn60, hT, q400, (fun k hk => if_pos hk)⟩⟩)

set_option maxHeartbeats 400000 in
set_option maxRecDepth 100000 in
theorem qX10_writeRelaxedN {X : zX} (hX : X.1.stackTraces = false) {σ : zS} {y : Nat} {w tm cd dn : Int32} {K : zDk} {A S : zDk} {m : Nat} {U : Nat → zDk} {n : Nat} {T : Nat → Int32} {ll : Nat} {ln : Nat → Int32} {hs kf ld dt dc : Int32} {i : Nat} (hM : zMo y w tm cd dn K A S m U n T ll ln hs kf ld dt dc σ) (gA : zGd A) (hi : i < kC A) (hO : zRn 2000 [] (zWd A i) = none) : zMet X mX10_writeRelaxed yX10_writeRelaxed 4 0 0 [.ref y, .int (nI i)] σ (zI (fun y_ s => True ∧ zFr σ s (zMq y) ∧ zMo y w tm 2 0 K A S m U n T ll ln hs kf ld dt dc s)) := by
  refine zMet_of (ls := [some (.ref y), some (.int (nI i))]) rfl (by decide +kernel) rfl (fun h => by cases h) hX (Nat.le_of_ble_eq_true rfl) rfl ?_
  obtain ⟨F, g, kp, sv, bf, ip, sg, td, h0, hf, h1, h2, h3, h4, h5, h6, h11, hWa, hC, hX9, hOt, gr, gS, gK, hm8, gU, hn60, hT, hll, hln⟩ := id hM
  obtain ⟨f4, f5, f6, f7, f8, f9, f10, f11, f13, f14, f16, f27⟩ := id hf
  have hA := gA.1
  obtain ⟨r0, r1, rc, rp⟩ := id gr
  obtain ⟨hC8, hP8, hW⟩ := id hA
  refine zr_aload_n dX10_writeRelaxed_0 rfl ?_
  refine zr_iload_n dX10_writeRelaxed_1 rfl ?_
  refine zr_callVi [] dX10_writeRelaxed_2 vX10_174 (qX10_isRelaxedN hX (i := i) h0 h1 gr hA hi hO hWa hC) h0 (by decide) (by decide) (by decide) rfl rfl (Nat.le_of_ble_eq_true rfl) (by decide) rfl (fun r1 s1 h_ => ?_)
  obtain ⟨rfl, m1, c1, u1, v1, F1, g0, kW1, kC1⟩ := h_
  have kh1 : s1.1 (y + 1) = .inl (0, 82, .inl g) := zFr.get F1 (by omega) h1
  have kh2 : s1.1 (y + 2) = .inl (0, 656, .inl kp) := zFr.get F1 (by omega) h2
  have kh3 : s1.1 (y + 3) = .inl (0, 82, .inl sv) := zFr.get F1 (by omega) h3
  have kh4 : s1.1 (y + 4) = .inl (0, 82, .inl bf) := zFr.get F1 (by omega) h4
  have kh5 : s1.1 (y + 5) = .inl (0, 60, .inl ip) := zFr.get F1 (by omega) h5
  have kh6 : s1.1 (y + 6) = .inl (1, 400, .inl sg) := zFr.get F1 (by omega) h6
  have kh7 : s1.1 (y + 11) = .inl (0, 93, .inl td) := zFr.get F1 (by omega) h11
  have kR8 := zXa.fr hX9 F1 (by intro q a b c; omega)
  have kR9 := zOa.fr hOt F1 (by intro q a b c; omega)
  have kF10 := zFr.tr zFr.rf (P := zMq y) F1 (by intro q hq; unfold zMq; omega)
  refine zr_if_ne (tgt := 10) dX10_writeRelaxed_5 (by decide) (fun c_5 => absurd (by decide) c_5) (fun c_5 => ?_)
  refine zr_iconst (v := 0) dX10_writeRelaxed_8 (by decide) ?_
  exact zr_ireturn dX10_writeRelaxed_9 rfl (rfl) (⟨_, rfl, trivial, kF10, ⟨_, _, _, _, _, _, _, _, g0, ⟨f4, f5, f6, rfl, rfl, f9, f10, f11, f13, f14, f16, f27⟩, kh1, kh2, kh3, kh4, kh5, kh6, kh7, kW1, kC1, kR8, kR9, gr, gS, gK, hm8, gU, hn60, hT, hll, hln⟩⟩)

set_option maxHeartbeats 400000 in
set_option maxRecDepth 100000 in
theorem qX10_writeRelaxedX {X : zX} (hX : X.1.stackTraces = false) {σ : zS} {y : Nat} {w tm cd dn : Int32} {K : zDk} {A S : zDk} {m : Nat} {U : Nat → zDk} {n : Nat} {T : Nat → Int32} {ll : Nat} {ln : Nat → Int32} {hs kf ld dt dc : Int32} {p : Int32} (hM : zMo y w tm cd dn K A S m U n T ll ln hs kf ld dt dc σ) (gA : zGd A) (hno : ¬ (¬ p < 0 ∧ p < nI (kC A))) : zMet X mX10_writeRelaxed yX10_writeRelaxed 4 0 0 [.ref y, .int p] σ (zI (fun y_ s => True ∧ zFr σ s (zMq y) ∧ zMo y w tm 1 0 K A S m U n T ll ln hs kf ld dt dc s)) := by
  refine zMet_of (ls := [some (.ref y), some (.int p)]) rfl (by decide +kernel) rfl (fun h => by cases h) hX (Nat.le_of_ble_eq_true rfl) rfl ?_
  obtain ⟨F, g, kp, sv, bf, ip, sg, td, h0, hf, h1, h2, h3, h4, h5, h6, h11, hWa, hC, hX9, hOt, gr, gS, gK, hm8, gU, hn60, hT, hll, hln⟩ := id hM
  obtain ⟨f4, f5, f6, f7, f8, f9, f10, f11, f13, f14, f16, f27⟩ := id hf
  have hA := gA.1
  obtain ⟨r0, r1, rc, rp⟩ := id gr
  obtain ⟨hC8, hP8, hW⟩ := id hA
  refine zr_aload_n dX10_writeRelaxed_0 rfl ?_
  refine zr_iload_n dX10_writeRelaxed_1 rfl ?_
  refine zr_callVi [] dX10_writeRelaxed_2 vX10_174 (qX10_isRelaxedX hX (p := p) h0 h1 gr hA hno) h0 (by decide) (by decide) (by decide) rfl rfl (Nat.le_of_ble_eq_true rfl) (by decide) rfl (fun r1 s1 h_ => ?_)
  obtain ⟨rfl, F1, g0⟩ := h_
  have kh1 : s1.1 (y + 1) = .inl (0, 82, .inl g) := zFr.get F1 (by omega) h1
  have kh2 : s1.1 (y + 2) = .inl (0, 656, .inl kp) := zFr.get F1 (by omega) h2
  have kh3 : s1.1 (y + 3) = .inl (0, 82, .inl sv) := zFr.get F1 (by omega) h3
  have kh4 : s1.1 (y + 4) = .inl (0, 82, .inl bf) := zFr.get F1 (by omega) h4
  have kh5 : s1.1 (y + 5) = .inl (0, 60, .inl ip) := zFr.get F1 (by omega) h5
  have kh6 : s1.1 (y + 6) = .inl (1, 400, .inl sg) := zFr.get F1 (by omega) h6
  have kh7 : s1.1 (y + 11) = .inl (0, 93, .inl td) := zFr.get F1 (by omega) h11
  have kR8 := zWa.fr hWa F1 (by intro q a b c; omega)
  have kR9 := zCy.fr hC F1 (by intro q a b c; omega)
  have kR10 := zXa.fr hX9 F1 (by intro q a b c; omega)
  have kR11 := zOa.fr hOt F1 (by intro q a b c; omega)
  have kF12 := zFr.tr zFr.rf (P := zMq y) F1 (by intro q hq; unfold zMq; omega)
  refine zr_if_ne (tgt := 10) dX10_writeRelaxed_5 (by decide) (fun c_5 => absurd (by decide) c_5) (fun c_5 => ?_)
  refine zr_iconst (v := 0) dX10_writeRelaxed_8 (by decide) ?_
  exact zr_ireturn dX10_writeRelaxed_9 rfl (rfl) (⟨_, rfl, trivial, kF12, ⟨_, _, _, _, _, _, _, _, g0, ⟨f4, f5, f6, rfl, rfl, f9, f10, f11, f13, f14, f16, f27⟩, kh1, kh2, kh3, kh4, kh5, kh6, kh7, kR8, kR9, kR10, kR11, gr, gS, gK, hm8, gU, hn60, hT, hll, hln⟩⟩)

set_option maxHeartbeats 400000 in
set_option maxRecDepth 100000 in
theorem qX10_lineCharacter {X : zX} (hX : X.1.stackTraces = false) {σ : zS} {y : Nat} {w tm cd dn : Int32} {K : zDk} {A S : zDk} {m : Nat} {U : Nat → zDk} {n : Nat} {T : Nat → Int32} {ll : Nat} {ln : Nat → Int32} {hs kf ld dt dc : Int32} {j : Nat} (hM : zMo y w tm cd dn K A S m U n T ll ln hs kf ld dt dc σ) (gA : zGd A) (hj8 : j < ll) (hch : ∀ k, k < ll → narrow .char (.int (ln k)) = .int (ln k)) : zMet X mX10_lineCharacter yX10_lineCharacter 2 0 0 [.ref y, .int (nI j)] σ (zI (fun y_ s => y_ = ln j ∧ zFr σ s (zMq y) ∧ zMo y w tm 0 0 K A S m U n T ll ln hs kf ld dt dc s)) := by
  refine zMet_of (ls := [some (.ref y), some (.int (nI j))]) rfl (by decide +kernel) rfl (fun h => by cases h) hX (Nat.le_of_ble_eq_true rfl) rfl ?_
  obtain ⟨F, g, kp, sv, bf, ip, sg, td, h0, hf, h1, h2, h3, h4, h5, h6, h11, hWa, hC, hX9, hOt, gr, gS, gK, hm8, gU, hn60, hT, hll, hln⟩ := id hM
  obtain ⟨f4, f5, f6, f7, f8, f9, f10, f11, f13, f14, f16, f27⟩ := id hf
  have hA := gA.1
  obtain ⟨r0, r1, rc, rp⟩ := id gr
  obtain ⟨hC8, hP8, hW⟩ := id hA
  refine zr_aload_n dX10_lineCharacter_0 rfl ?_
  refine zr_iload_n dX10_lineCharacter_1 rfl ?_
  refine zr_iconst (v := 0) dX10_lineCharacter_2 (by decide) ?_
  refine zr_aload_n dX10_lineCharacter_3 rfl ?_
  refine zr_getM (v := .int (F 16)) dX10_lineCharacter_4 fX10_305 h0 rfl ?_
  refine zr_eqi (x' := nI ll) (f16) ?_
  refine zr_iconst (v := 1) dX10_lineCharacter_7 (by decide) ?_
  refine zr_isub dX10_lineCharacter_8 ?_
  refine zr_pSi [.ref y] dX10_lineCharacter_9 vX10_75 (qX10_in hX (v := nI j) (l := 0) (h := (nI ll - 1))) (by decide) (by decide) (by decide) rfl rfl (Nat.le_of_ble_eq_true rfl) rfl ?_
  refine zr_eqi (x' := (if ¬ nI j < 0 ∧ nI j < nI ll then 1 else 0)) (isin_if (by omega)) ?_
  refine zr_if_eq (tgt := 19) dX10_lineCharacter_12 (by decide) (fun c_12 => absurd c_12 (fun q => ite10.mp q (isin_y hj8 (by omega)))) (fun c_12 => ?_)
  refine zr_iconst (v := 0) dX10_lineCharacter_15 (by decide) ?_
  refine zr_goto (tgt := 20) dX10_lineCharacter_16 (by decide) ?_
  refine zr_callVi [] dX10_lineCharacter_20 vX10_135 (qX10_fails hX (p := 0) h0) h0 (by decide) (by decide) (by decide) rfl rfl (Nat.le_of_ble_eq_true rfl) (by decide) rfl (fun kr1 s_kr1 h_kr1 => ?_)
  obtain ⟨e_kr1, F_kr1, g0_kr1⟩ := h_kr1
  have kh2 : s_kr1.1 (y + 1) = .inl (0, 82, .inl g) := zFr.get F_kr1 (by omega) h1
  have kh3 : s_kr1.1 (y + 2) = .inl (0, 656, .inl kp) := zFr.get F_kr1 (by omega) h2
  have kh4 : s_kr1.1 (y + 3) = .inl (0, 82, .inl sv) := zFr.get F_kr1 (by omega) h3
  have kh5 : s_kr1.1 (y + 4) = .inl (0, 82, .inl bf) := zFr.get F_kr1 (by omega) h4
  have kh6 : s_kr1.1 (y + 5) = .inl (0, 60, .inl ip) := zFr.get F_kr1 (by omega) h5
  have kh7 : s_kr1.1 (y + 6) = .inl (1, 400, .inl sg) := zFr.get F_kr1 (by omega) h6
  have kh8 : s_kr1.1 (y + 11) = .inl (0, 93, .inl td) := zFr.get F_kr1 (by omega) h11
  have kR9 : zWa y s_kr1 := zWa.fr hWa F_kr1 (by intro q h1 h2 h3; (try simp only [zIn, zJf] at h3); omega)
  have kR10 : zCy y s_kr1 := zCy.fr hC F_kr1 (by intro q h1 h2 h3; (try simp only [zIn, zJf] at h3); omega)
  have kR11 : zXa y s_kr1 := zXa.fr hX9 F_kr1 (by intro q h1 h2 h3; (try simp only [zIn, zJf] at h3); omega)
  have kR12 : zOa y s_kr1 := zOa.fr hOt F_kr1 (by intro q h1 h2 h3; (try simp only [zIn, zJf] at h3); omega)
  have kF13 := zFr.tr zFr.rf (P := zMq y) F_kr1 (by intro q hq; unfold zMq; omega)
  replace e_kr1 := e_kr1.trans (if_pos (by decide) : (_ : Int32) = 0)
  obtain rfl := e_kr1.symm
  refine zr_if_eq (tgt := 31) dX10_lineCharacter_23 (by decide) (fun c_23 => ?_) (fun c_23 => absurd (by decide) c_23)
  refine zr_aload_n dX10_lineCharacter_31 rfl ?_
  refine zr_getM (v := .ref (y + 6)) dX10_lineCharacter_32 fX10_29 g0_kr1 rfl ?_
  refine zr_iload_n dX10_lineCharacter_35 rfl ?_
  refine zr_caload dX10_lineCharacter_36 kh7 (vp_in_nI (n := j) (by omega) (by omega)) ?_
  rw [nI_clamp (n := j) (by omega)]
  refine zr_eqi (x' := (ln j)) (hln j hj8) ?_
  exact zr_ireturn dX10_lineCharacter_37 rfl (hch j hj8) (⟨_, rfl, rfl, kF13, ⟨_, _, _, _, _, _, _, _, g0_kr1, ⟨f4, f5, f6, rfl, rfl, f9, f10, f11, f13, f14, f16, f27⟩, kh2, kh3, kh4, kh5, kh6, kh7, kh8, kR9, kR10, kR11, kR12, gr, gS, gK, hm8, gU, hn60, hT, hll, hln⟩⟩)

set_option maxHeartbeats 400000 in
set_option maxRecDepth 100000 in
theorem qX10_lineCharacterX {X : zX} (hX : X.1.stackTraces = false) {σ : zS} {y : Nat} {w tm cd dn : Int32} {K : zDk} {A S : zDk} {m : Nat} {U : Nat → zDk} {n : Nat} {T : Nat → Int32} {ll : Nat} {ln : Nat → Int32} {hs kf ld dt dc : Int32} {p : Int32} (hM : zMo y w tm cd dn K A S m U n T ll ln hs kf ld dt dc σ) (gA : zGd A) (hno : ¬ (¬ p < 0 ∧ p < nI ll)) : zMet X mX10_lineCharacter yX10_lineCharacter 2 0 0 [.ref y, .int p] σ (zI (fun y_ s => True ∧ zFr σ s (zMq y) ∧ zMo y w tm 1 0 K A S m U n T ll ln hs kf ld dt dc s)) := by
  refine zMet_of (ls := [some (.ref y), some (.int p)]) rfl (by decide +kernel) rfl (fun h => by cases h) hX (Nat.le_of_ble_eq_true rfl) rfl ?_
  obtain ⟨F, g, kp, sv, bf, ip, sg, td, h0, hf, h1, h2, h3, h4, h5, h6, h11, hWa, hC, hX9, hOt, gr, gS, gK, hm8, gU, hn60, hT, hll, hln⟩ := id hM
  obtain ⟨f4, f5, f6, f7, f8, f9, f10, f11, f13, f14, f16, f27⟩ := id hf
  have hA := gA.1
  obtain ⟨r0, r1, rc, rp⟩ := id gr
  obtain ⟨hC8, hP8, hW⟩ := id hA
  refine zr_aload_n dX10_lineCharacter_0 rfl ?_
  refine zr_iload_n dX10_lineCharacter_1 rfl ?_
  refine zr_iconst (v := 0) dX10_lineCharacter_2 (by decide) ?_
  refine zr_aload_n dX10_lineCharacter_3 rfl ?_
  refine zr_getM (v := .int (F 16)) dX10_lineCharacter_4 fX10_305 h0 rfl ?_
  refine zr_eqi (x' := nI ll) (f16) ?_
  refine zr_iconst (v := 1) dX10_lineCharacter_7 (by decide) ?_
  refine zr_isub dX10_lineCharacter_8 ?_
  refine zr_pSi [.ref y] dX10_lineCharacter_9 vX10_75 (qX10_in hX (v := p) (l := 0) (h := (nI ll - 1))) (by decide) (by decide) (by decide) rfl rfl (Nat.le_of_ble_eq_true rfl) rfl ?_
  refine zr_eqi (x' := (if ¬ p < 0 ∧ p < nI ll then 1 else 0)) (isin_if (by omega)) ?_
  refine zr_if_eq (tgt := 19) dX10_lineCharacter_12 (by decide) (fun c_12 => ?_) (fun c_12 => absurd (ite10.mpr hno) c_12)
  refine zr_iconst (v := 1) dX10_lineCharacter_19 (by decide) ?_
  refine zr_callVi [] dX10_lineCharacter_20 vX10_135 (qX10_fails hX (p := 1) h0) h0 (by decide) (by decide) (by decide) rfl rfl (Nat.le_of_ble_eq_true rfl) (by decide) rfl (fun kr1 s_kr1 h_kr1 => ?_)
  obtain ⟨e_kr1, F_kr1, g0_kr1⟩ := h_kr1
  have kh2 : s_kr1.1 (y + 1) = .inl (0, 82, .inl g) := zFr.get F_kr1 (by omega) h1
  have kh3 : s_kr1.1 (y + 2) = .inl (0, 656, .inl kp) := zFr.get F_kr1 (by omega) h2
  have kh4 : s_kr1.1 (y + 3) = .inl (0, 82, .inl sv) := zFr.get F_kr1 (by omega) h3
  have kh5 : s_kr1.1 (y + 4) = .inl (0, 82, .inl bf) := zFr.get F_kr1 (by omega) h4
  have kh6 : s_kr1.1 (y + 5) = .inl (0, 60, .inl ip) := zFr.get F_kr1 (by omega) h5
  have kh7 : s_kr1.1 (y + 6) = .inl (1, 400, .inl sg) := zFr.get F_kr1 (by omega) h6
  have kh8 : s_kr1.1 (y + 11) = .inl (0, 93, .inl td) := zFr.get F_kr1 (by omega) h11
  have kR9 : zWa y s_kr1 := zWa.fr hWa F_kr1 (by intro q h1 h2 h3; (try simp only [zIn, zJf] at h3); omega)
  have kR10 : zCy y s_kr1 := zCy.fr hC F_kr1 (by intro q h1 h2 h3; (try simp only [zIn, zJf] at h3); omega)
  have kR11 : zXa y s_kr1 := zXa.fr hX9 F_kr1 (by intro q h1 h2 h3; (try simp only [zIn, zJf] at h3); omega)
  have kR12 : zOa y s_kr1 := zOa.fr hOt F_kr1 (by intro q h1 h2 h3; (try simp only [zIn, zJf] at h3); omega)
  have kF13 := zFr.tr zFr.rf (P := zMq y) F_kr1 (by intro q hq; unfold zMq; omega)
  replace e_kr1 := e_kr1.trans (if_neg (by decide) : (_ : Int32) = 1)
  obtain rfl := e_kr1.symm
  refine zr_if_eq (tgt := 31) dX10_lineCharacter_23 (by decide) (fun c_23 => absurd c_23 (by decide)) (fun c_23 => ?_)
  refine zr_bipush (v := 32) dX10_lineCharacter_26 (by decide) ?_
  refine zr_goto (tgt := 37) dX10_lineCharacter_28 (by decide) ?_
  exact zr_ireturn dX10_lineCharacter_37 rfl (rfl) (⟨_, rfl, trivial, kF13, ⟨_, _, _, _, _, _, _, _, g0_kr1, ⟨f4, f5, f6, rfl, rfl, f9, f10, f11, f13, f14, f16, f27⟩, kh2, kh3, kh4, kh5, kh6, kh7, kh8, kR9, kR10, kR11, kR12, gr, gS, gK, hm8, gU, hn60, hT, hll, hln⟩⟩)

set_option maxHeartbeats 400000 in
set_option maxRecDepth 100000 in
theorem qX10_denial {X : zX} (hX : X.1.stackTraces = false) {σ : zS} {y : Nat} {w tm cd dn : Int32} {K : zDk} {A S : zDk} {m : Nat} {U : Nat → zDk} {n : Nat} {T : Nat → Int32} {ll : Nat} {ln : Nat → Int32} {hs kf ld dt dc : Int32} (hM : zMo y w tm cd dn K A S m U n T ll ln hs kf ld dt dc σ) (gA : zGd A) (hz : ¬ ld = 0) : zMet X mX10_denial yX10_denial 2 0 0 [.ref y] σ (zI (fun y_ s => y_ = ld ∧ zFr σ s (zMq y) ∧ zMo y w tm 0 0 K A S m U n T ll ln hs kf ld dt dc s)) := by
  refine zMet_of (ls := [some (.ref y)]) rfl (by decide +kernel) rfl (fun h => by cases h) hX (Nat.le_of_ble_eq_true rfl) rfl ?_
  obtain ⟨F, g, kp, sv, bf, ip, sg, td, h0, hf, h1, h2, h3, h4, h5, h6, h11, hWa, hC, hX9, hOt, gr, gS, gK, hm8, gU, hn60, hT, hll, hln⟩ := id hM
  obtain ⟨f4, f5, f6, f7, f8, f9, f10, f11, f13, f14, f16, f27⟩ := id hf
  have hA := gA.1
  obtain ⟨r0, r1, rc, rp⟩ := id gr
  obtain ⟨hC8, hP8, hW⟩ := id hA
  refine zr_aload_n dX10_denial_0 rfl ?_
  refine zr_aload_n dX10_denial_1 rfl ?_
  refine zr_getM (v := .int (F 9)) dX10_denial_2 fX10_56 h0 rfl ?_
  refine zr_eqi (x' := ld) (f9) ?_
  refine zr_if_ne (tgt := 12) dX10_denial_5 (by decide) (fun c_5 => ?_) (fun c_5 => absurd c_5 (hz))
  refine zr_iconst (v := 0) dX10_denial_12 (by decide) ?_
  refine zr_callVi [] dX10_denial_13 vX10_135 (qX10_fails hX (p := 0) h0) h0 (by decide) (by decide) (by decide) rfl rfl (Nat.le_of_ble_eq_true rfl) (by decide) rfl (fun kr1 s_kr1 h_kr1 => ?_)
  obtain ⟨e_kr1, F_kr1, g0_kr1⟩ := h_kr1
  have kh2 : s_kr1.1 (y + 1) = .inl (0, 82, .inl g) := zFr.get F_kr1 (by omega) h1
  have kh3 : s_kr1.1 (y + 2) = .inl (0, 656, .inl kp) := zFr.get F_kr1 (by omega) h2
  have kh4 : s_kr1.1 (y + 3) = .inl (0, 82, .inl sv) := zFr.get F_kr1 (by omega) h3
  have kh5 : s_kr1.1 (y + 4) = .inl (0, 82, .inl bf) := zFr.get F_kr1 (by omega) h4
  have kh6 : s_kr1.1 (y + 5) = .inl (0, 60, .inl ip) := zFr.get F_kr1 (by omega) h5
  have kh7 : s_kr1.1 (y + 6) = .inl (1, 400, .inl sg) := zFr.get F_kr1 (by omega) h6
  have kh8 : s_kr1.1 (y + 11) = .inl (0, 93, .inl td) := zFr.get F_kr1 (by omega) h11
  have kR9 : zWa y s_kr1 := zWa.fr hWa F_kr1 (by intro q h1 h2 h3; (try simp only [zIn, zJf] at h3); omega)
  have kR10 : zCy y s_kr1 := zCy.fr hC F_kr1 (by intro q h1 h2 h3; (try simp only [zIn, zJf] at h3); omega)
  have kR11 : zXa y s_kr1 := zXa.fr hX9 F_kr1 (by intro q h1 h2 h3; (try simp only [zIn, zJf] at h3); omega)
  have kR12 : zOa y s_kr1 := zOa.fr hOt F_kr1 (by intro q h1 h2 h3; (try simp only [zIn, zJf] at h3); omega)
  have kF13 := zFr.tr zFr.rf (P := zMq y) F_kr1 (by intro q hq; unfold zMq; omega)
  replace e_kr1 := e_kr1.trans (if_pos (by decide) : (_ : Int32) = 0)
  obtain rfl := e_kr1.symm
  refine zr_if_eq (tgt := 23) dX10_denial_16 (by decide) (fun c_16 => ?_) (fun c_16 => absurd (by decide) c_16)
  refine zr_aload_n dX10_denial_23 rfl ?_
  refine zr_getM (v := .int (F 9)) dX10_denial_24 fX10_56 g0_kr1 rfl ?_
  refine zr_eqi (x' := ld) (f9) ?_
  exact zr_ireturn dX10_denial_27 rfl (rfl) (⟨_, rfl, rfl, kF13, ⟨_, _, _, _, _, _, _, _, g0_kr1, ⟨f4, f5, f6, rfl, rfl, f9, f10, f11, f13, f14, f16, f27⟩, kh2, kh3, kh4, kh5, kh6, kh7, kh8, kR9, kR10, kR11, kR12, gr, gS, gK, hm8, gU, hn60, hT, hll, hln⟩⟩)

set_option maxHeartbeats 400000 in
set_option maxRecDepth 100000 in
theorem qX10_denialN {X : zX} (hX : X.1.stackTraces = false) {σ : zS} {y : Nat} {w tm cd dn : Int32} {K : zDk} {A S : zDk} {m : Nat} {U : Nat → zDk} {n : Nat} {T : Nat → Int32} {ll : Nat} {ln : Nat → Int32} {hs kf ld dt dc : Int32} (hM : zMo y w tm cd dn K A S m U n T ll ln hs kf ld dt dc σ) (gA : zGd A) (hz : ld = 0) : zMet X mX10_denial yX10_denial 2 0 0 [.ref y] σ (zI (fun y_ s => True ∧ zFr σ s (zMq y) ∧ zMo y w tm 1 0 K A S m U n T ll ln hs kf ld dt dc s)) := by
  refine zMet_of (ls := [some (.ref y)]) rfl (by decide +kernel) rfl (fun h => by cases h) hX (Nat.le_of_ble_eq_true rfl) rfl ?_
  obtain ⟨F, g, kp, sv, bf, ip, sg, td, h0, hf, h1, h2, h3, h4, h5, h6, h11, hWa, hC, hX9, hOt, gr, gS, gK, hm8, gU, hn60, hT, hll, hln⟩ := id hM
  obtain ⟨f4, f5, f6, f7, f8, f9, f10, f11, f13, f14, f16, f27⟩ := id hf
  have hA := gA.1
  obtain ⟨r0, r1, rc, rp⟩ := id gr
  obtain ⟨hC8, hP8, hW⟩ := id hA
  refine zr_aload_n dX10_denial_0 rfl ?_
  refine zr_aload_n dX10_denial_1 rfl ?_
  refine zr_getM (v := .int (F 9)) dX10_denial_2 fX10_56 h0 rfl ?_
  refine zr_eqi (x' := ld) (f9) ?_
  refine zr_if_ne (tgt := 12) dX10_denial_5 (by decide) (fun c_5 => absurd (hz) c_5) (fun c_5 => ?_)
  refine zr_iconst (v := 1) dX10_denial_8 (by decide) ?_
  refine zr_goto (tgt := 13) dX10_denial_9 (by decide) ?_
  refine zr_callVi [] dX10_denial_13 vX10_135 (qX10_fails hX (p := 1) h0) h0 (by decide) (by decide) (by decide) rfl rfl (Nat.le_of_ble_eq_true rfl) (by decide) rfl (fun kr1 s_kr1 h_kr1 => ?_)
  obtain ⟨e_kr1, F_kr1, g0_kr1⟩ := h_kr1
  have kh2 : s_kr1.1 (y + 1) = .inl (0, 82, .inl g) := zFr.get F_kr1 (by omega) h1
  have kh3 : s_kr1.1 (y + 2) = .inl (0, 656, .inl kp) := zFr.get F_kr1 (by omega) h2
  have kh4 : s_kr1.1 (y + 3) = .inl (0, 82, .inl sv) := zFr.get F_kr1 (by omega) h3
  have kh5 : s_kr1.1 (y + 4) = .inl (0, 82, .inl bf) := zFr.get F_kr1 (by omega) h4
  have kh6 : s_kr1.1 (y + 5) = .inl (0, 60, .inl ip) := zFr.get F_kr1 (by omega) h5
  have kh7 : s_kr1.1 (y + 6) = .inl (1, 400, .inl sg) := zFr.get F_kr1 (by omega) h6
  have kh8 : s_kr1.1 (y + 11) = .inl (0, 93, .inl td) := zFr.get F_kr1 (by omega) h11
  have kR9 : zWa y s_kr1 := zWa.fr hWa F_kr1 (by intro q h1 h2 h3; (try simp only [zIn, zJf] at h3); omega)
  have kR10 : zCy y s_kr1 := zCy.fr hC F_kr1 (by intro q h1 h2 h3; (try simp only [zIn, zJf] at h3); omega)
  have kR11 : zXa y s_kr1 := zXa.fr hX9 F_kr1 (by intro q h1 h2 h3; (try simp only [zIn, zJf] at h3); omega)
  have kR12 : zOa y s_kr1 := zOa.fr hOt F_kr1 (by intro q h1 h2 h3; (try simp only [zIn, zJf] at h3); omega)
  have kF13 := zFr.tr zFr.rf (P := zMq y) F_kr1 (by intro q hq; unfold zMq; omega)
  replace e_kr1 := e_kr1.trans (if_neg (by decide) : (_ : Int32) = 1)
  obtain rfl := e_kr1.symm
  refine zr_if_eq (tgt := 23) dX10_denial_16 (by decide) (fun c_16 => absurd c_16 (by decide)) (fun c_16 => ?_)
  refine zr_iconst (v := 0) dX10_denial_19 (by decide) ?_
  refine zr_goto (tgt := 27) dX10_denial_20 (by decide) ?_
  exact zr_ireturn dX10_denial_27 rfl (rfl) (⟨_, rfl, trivial, kF13, ⟨_, _, _, _, _, _, _, _, g0_kr1, ⟨f4, f5, f6, rfl, rfl, f9, f10, f11, f13, f14, f16, f27⟩, kh2, kh3, kh4, kh5, kh6, kh7, kh8, kR9, kR10, kR11, kR12, gr, gS, gK, hm8, gU, hn60, hT, hll, hln⟩⟩)

set_option maxHeartbeats 400000 in
set_option maxRecDepth 100000 in
theorem qX10_denialDetail {X : zX} (hX : X.1.stackTraces = false) {σ : zS} {y : Nat} {w tm cd dn : Int32} {K : zDk} {A S : zDk} {m : Nat} {U : Nat → zDk} {n : Nat} {T : Nat → Int32} {ll : Nat} {ln : Nat → Int32} {hs kf ld dt dc : Int32} (hM : zMo y w tm cd dn K A S m U n T ll ln hs kf ld dt dc σ) (gA : zGd A) (hz : ¬ ld = 0) : zMet X mX10_denialDetail yX10_denialDetail 2 0 0 [.ref y] σ (zI (fun y_ s => y_ = dt ∧ zFr σ s (zMq y) ∧ zMo y w tm 0 0 K A S m U n T ll ln hs kf ld dt dc s)) := by
  refine zMet_of (ls := [some (.ref y)]) rfl (by decide +kernel) rfl (fun h => by cases h) hX (Nat.le_of_ble_eq_true rfl) rfl ?_
  obtain ⟨F, g, kp, sv, bf, ip, sg, td, h0, hf, h1, h2, h3, h4, h5, h6, h11, hWa, hC, hX9, hOt, gr, gS, gK, hm8, gU, hn60, hT, hll, hln⟩ := id hM
  obtain ⟨f4, f5, f6, f7, f8, f9, f10, f11, f13, f14, f16, f27⟩ := id hf
  have hA := gA.1
  obtain ⟨r0, r1, rc, rp⟩ := id gr
  obtain ⟨hC8, hP8, hW⟩ := id hA
  refine zr_aload_n dX10_denialDetail_0 rfl ?_
  refine zr_aload_n dX10_denialDetail_1 rfl ?_
  refine zr_getM (v := .int (F 9)) dX10_denialDetail_2 fX10_56 h0 rfl ?_
  refine zr_eqi (x' := ld) (f9) ?_
  refine zr_if_ne (tgt := 12) dX10_denialDetail_5 (by decide) (fun c_5 => ?_) (fun c_5 => absurd c_5 (hz))
  refine zr_iconst (v := 0) dX10_denialDetail_12 (by decide) ?_
  refine zr_callVi [] dX10_denialDetail_13 vX10_135 (qX10_fails hX (p := 0) h0) h0 (by decide) (by decide) (by decide) rfl rfl (Nat.le_of_ble_eq_true rfl) (by decide) rfl (fun kr1 s_kr1 h_kr1 => ?_)
  obtain ⟨e_kr1, F_kr1, g0_kr1⟩ := h_kr1
  have kh2 : s_kr1.1 (y + 1) = .inl (0, 82, .inl g) := zFr.get F_kr1 (by omega) h1
  have kh3 : s_kr1.1 (y + 2) = .inl (0, 656, .inl kp) := zFr.get F_kr1 (by omega) h2
  have kh4 : s_kr1.1 (y + 3) = .inl (0, 82, .inl sv) := zFr.get F_kr1 (by omega) h3
  have kh5 : s_kr1.1 (y + 4) = .inl (0, 82, .inl bf) := zFr.get F_kr1 (by omega) h4
  have kh6 : s_kr1.1 (y + 5) = .inl (0, 60, .inl ip) := zFr.get F_kr1 (by omega) h5
  have kh7 : s_kr1.1 (y + 6) = .inl (1, 400, .inl sg) := zFr.get F_kr1 (by omega) h6
  have kh8 : s_kr1.1 (y + 11) = .inl (0, 93, .inl td) := zFr.get F_kr1 (by omega) h11
  have kR9 : zWa y s_kr1 := zWa.fr hWa F_kr1 (by intro q h1 h2 h3; (try simp only [zIn, zJf] at h3); omega)
  have kR10 : zCy y s_kr1 := zCy.fr hC F_kr1 (by intro q h1 h2 h3; (try simp only [zIn, zJf] at h3); omega)
  have kR11 : zXa y s_kr1 := zXa.fr hX9 F_kr1 (by intro q h1 h2 h3; (try simp only [zIn, zJf] at h3); omega)
  have kR12 : zOa y s_kr1 := zOa.fr hOt F_kr1 (by intro q h1 h2 h3; (try simp only [zIn, zJf] at h3); omega)
  have kF13 := zFr.tr zFr.rf (P := zMq y) F_kr1 (by intro q hq; unfold zMq; omega)
  replace e_kr1 := e_kr1.trans (if_pos (by decide) : (_ : Int32) = 0)
  obtain rfl := e_kr1.symm
  refine zr_if_eq (tgt := 23) dX10_denialDetail_16 (by decide) (fun c_16 => ?_) (fun c_16 => absurd (by decide) c_16)
  refine zr_aload_n dX10_denialDetail_23 rfl ?_
  refine zr_getM (v := .int (F 10)) dX10_denialDetail_24 fX10_59 g0_kr1 rfl ?_
  refine zr_eqi (x' := dt) (f10) ?_
  exact zr_ireturn dX10_denialDetail_27 rfl (rfl) (⟨_, rfl, rfl, kF13, ⟨_, _, _, _, _, _, _, _, g0_kr1, ⟨f4, f5, f6, rfl, rfl, f9, f10, f11, f13, f14, f16, f27⟩, kh2, kh3, kh4, kh5, kh6, kh7, kh8, kR9, kR10, kR11, kR12, gr, gS, gK, hm8, gU, hn60, hT, hll, hln⟩⟩)

set_option maxHeartbeats 400000 in
set_option maxRecDepth 100000 in
theorem qX10_denialDetailN {X : zX} (hX : X.1.stackTraces = false) {σ : zS} {y : Nat} {w tm cd dn : Int32} {K : zDk} {A S : zDk} {m : Nat} {U : Nat → zDk} {n : Nat} {T : Nat → Int32} {ll : Nat} {ln : Nat → Int32} {hs kf ld dt dc : Int32} (hM : zMo y w tm cd dn K A S m U n T ll ln hs kf ld dt dc σ) (gA : zGd A) (hz : ld = 0) : zMet X mX10_denialDetail yX10_denialDetail 2 0 0 [.ref y] σ (zI (fun y_ s => True ∧ zFr σ s (zMq y) ∧ zMo y w tm 1 0 K A S m U n T ll ln hs kf ld dt dc s)) := by
  refine zMet_of (ls := [some (.ref y)]) rfl (by decide +kernel) rfl (fun h => by cases h) hX (Nat.le_of_ble_eq_true rfl) rfl ?_
  obtain ⟨F, g, kp, sv, bf, ip, sg, td, h0, hf, h1, h2, h3, h4, h5, h6, h11, hWa, hC, hX9, hOt, gr, gS, gK, hm8, gU, hn60, hT, hll, hln⟩ := id hM
  obtain ⟨f4, f5, f6, f7, f8, f9, f10, f11, f13, f14, f16, f27⟩ := id hf
  have hA := gA.1
  obtain ⟨r0, r1, rc, rp⟩ := id gr
  obtain ⟨hC8, hP8, hW⟩ := id hA
  refine zr_aload_n dX10_denialDetail_0 rfl ?_
  refine zr_aload_n dX10_denialDetail_1 rfl ?_
  refine zr_getM (v := .int (F 9)) dX10_denialDetail_2 fX10_56 h0 rfl ?_
  refine zr_eqi (x' := ld) (f9) ?_
  refine zr_if_ne (tgt := 12) dX10_denialDetail_5 (by decide) (fun c_5 => absurd (hz) c_5) (fun c_5 => ?_)
  refine zr_iconst (v := 1) dX10_denialDetail_8 (by decide) ?_
  refine zr_goto (tgt := 13) dX10_denialDetail_9 (by decide) ?_
  refine zr_callVi [] dX10_denialDetail_13 vX10_135 (qX10_fails hX (p := 1) h0) h0 (by decide) (by decide) (by decide) rfl rfl (Nat.le_of_ble_eq_true rfl) (by decide) rfl (fun kr1 s_kr1 h_kr1 => ?_)
  obtain ⟨e_kr1, F_kr1, g0_kr1⟩ := h_kr1
  have kh2 : s_kr1.1 (y + 1) = .inl (0, 82, .inl g) := zFr.get F_kr1 (by omega) h1
  have kh3 : s_kr1.1 (y + 2) = .inl (0, 656, .inl kp) := zFr.get F_kr1 (by omega) h2
  have kh4 : s_kr1.1 (y + 3) = .inl (0, 82, .inl sv) := zFr.get F_kr1 (by omega) h3
  have kh5 : s_kr1.1 (y + 4) = .inl (0, 82, .inl bf) := zFr.get F_kr1 (by omega) h4
  have kh6 : s_kr1.1 (y + 5) = .inl (0, 60, .inl ip) := zFr.get F_kr1 (by omega) h5
  have kh7 : s_kr1.1 (y + 6) = .inl (1, 400, .inl sg) := zFr.get F_kr1 (by omega) h6
  have kh8 : s_kr1.1 (y + 11) = .inl (0, 93, .inl td) := zFr.get F_kr1 (by omega) h11
  have kR9 : zWa y s_kr1 := zWa.fr hWa F_kr1 (by intro q h1 h2 h3; (try simp only [zIn, zJf] at h3); omega)
  have kR10 : zCy y s_kr1 := zCy.fr hC F_kr1 (by intro q h1 h2 h3; (try simp only [zIn, zJf] at h3); omega)
  have kR11 : zXa y s_kr1 := zXa.fr hX9 F_kr1 (by intro q h1 h2 h3; (try simp only [zIn, zJf] at h3); omega)
  have kR12 : zOa y s_kr1 := zOa.fr hOt F_kr1 (by intro q h1 h2 h3; (try simp only [zIn, zJf] at h3); omega)
  have kF13 := zFr.tr zFr.rf (P := zMq y) F_kr1 (by intro q hq; unfold zMq; omega)
  replace e_kr1 := e_kr1.trans (if_neg (by decide) : (_ : Int32) = 1)
  obtain rfl := e_kr1.symm
  refine zr_if_eq (tgt := 23) dX10_denialDetail_16 (by decide) (fun c_16 => absurd c_16 (by decide)) (fun c_16 => ?_)
  refine zr_iconst (v := 0) dX10_denialDetail_19 (by decide) ?_
  refine zr_goto (tgt := 27) dX10_denialDetail_20 (by decide) ?_
  exact zr_ireturn dX10_denialDetail_27 rfl (rfl) (⟨_, rfl, trivial, kF13, ⟨_, _, _, _, _, _, _, _, g0_kr1, ⟨f4, f5, f6, rfl, rfl, f9, f10, f11, f13, f14, f16, f27⟩, kh2, kh3, kh4, kh5, kh6, kh7, kh8, kR9, kR10, kR11, kR12, gr, gS, gK, hm8, gU, hn60, hT, hll, hln⟩⟩)

set_option maxHeartbeats 400000 in
set_option maxRecDepth 100000 in
theorem qX10_denialCause {X : zX} (hX : X.1.stackTraces = false) {σ : zS} {y : Nat} {w tm cd dn : Int32} {K : zDk} {A S : zDk} {m : Nat} {U : Nat → zDk} {n : Nat} {T : Nat → Int32} {ll : Nat} {ln : Nat → Int32} {hs kf ld dt dc : Int32} (hM : zMo y w tm cd dn K A S m U n T ll ln hs kf ld dt dc σ) (gA : zGd A) (hz : ¬ dc = 0) : zMet X mX10_denialCause yX10_denialCause 2 0 0 [.ref y] σ (zI (fun y_ s => y_ = dc ∧ zFr σ s (zMq y) ∧ zMo y w tm 0 0 K A S m U n T ll ln hs kf ld dt dc s)) := by
  refine zMet_of (ls := [some (.ref y)]) rfl (by decide +kernel) rfl (fun h => by cases h) hX (Nat.le_of_ble_eq_true rfl) rfl ?_
  obtain ⟨F, g, kp, sv, bf, ip, sg, td, h0, hf, h1, h2, h3, h4, h5, h6, h11, hWa, hC, hX9, hOt, gr, gS, gK, hm8, gU, hn60, hT, hll, hln⟩ := id hM
  obtain ⟨f4, f5, f6, f7, f8, f9, f10, f11, f13, f14, f16, f27⟩ := id hf
  have hA := gA.1
  obtain ⟨r0, r1, rc, rp⟩ := id gr
  obtain ⟨hC8, hP8, hW⟩ := id hA
  refine zr_aload_n dX10_denialCause_0 rfl ?_
  refine zr_aload_n dX10_denialCause_1 rfl ?_
  refine zr_getM (v := .int (F 11)) dX10_denialCause_2 fX10_62 h0 rfl ?_
  refine zr_eqi (x' := dc) (f11) ?_
  refine zr_if_ne (tgt := 12) dX10_denialCause_5 (by decide) (fun c_5 => ?_) (fun c_5 => absurd c_5 (hz))
  refine zr_iconst (v := 0) dX10_denialCause_12 (by decide) ?_
  refine zr_callVi [] dX10_denialCause_13 vX10_135 (qX10_fails hX (p := 0) h0) h0 (by decide) (by decide) (by decide) rfl rfl (Nat.le_of_ble_eq_true rfl) (by decide) rfl (fun kr1 s_kr1 h_kr1 => ?_)
  obtain ⟨e_kr1, F_kr1, g0_kr1⟩ := h_kr1
  have kh2 : s_kr1.1 (y + 1) = .inl (0, 82, .inl g) := zFr.get F_kr1 (by omega) h1
  have kh3 : s_kr1.1 (y + 2) = .inl (0, 656, .inl kp) := zFr.get F_kr1 (by omega) h2
  have kh4 : s_kr1.1 (y + 3) = .inl (0, 82, .inl sv) := zFr.get F_kr1 (by omega) h3
  have kh5 : s_kr1.1 (y + 4) = .inl (0, 82, .inl bf) := zFr.get F_kr1 (by omega) h4
  have kh6 : s_kr1.1 (y + 5) = .inl (0, 60, .inl ip) := zFr.get F_kr1 (by omega) h5
  have kh7 : s_kr1.1 (y + 6) = .inl (1, 400, .inl sg) := zFr.get F_kr1 (by omega) h6
  have kh8 : s_kr1.1 (y + 11) = .inl (0, 93, .inl td) := zFr.get F_kr1 (by omega) h11
  have kR9 : zWa y s_kr1 := zWa.fr hWa F_kr1 (by intro q h1 h2 h3; (try simp only [zIn, zJf] at h3); omega)
  have kR10 : zCy y s_kr1 := zCy.fr hC F_kr1 (by intro q h1 h2 h3; (try simp only [zIn, zJf] at h3); omega)
  have kR11 : zXa y s_kr1 := zXa.fr hX9 F_kr1 (by intro q h1 h2 h3; (try simp only [zIn, zJf] at h3); omega)
  have kR12 : zOa y s_kr1 := zOa.fr hOt F_kr1 (by intro q h1 h2 h3; (try simp only [zIn, zJf] at h3); omega)
  have kF13 := zFr.tr zFr.rf (P := zMq y) F_kr1 (by intro q hq; unfold zMq; omega)
  replace e_kr1 := e_kr1.trans (if_pos (by decide) : (_ : Int32) = 0)
  obtain rfl := e_kr1.symm
  refine zr_if_eq (tgt := 23) dX10_denialCause_16 (by decide) (fun c_16 => ?_) (fun c_16 => absurd (by decide) c_16)
  refine zr_aload_n dX10_denialCause_23 rfl ?_
  refine zr_getM (v := .int (F 11)) dX10_denialCause_24 fX10_62 g0_kr1 rfl ?_
  refine zr_eqi (x' := dc) (f11) ?_
  exact zr_ireturn dX10_denialCause_27 rfl (rfl) (⟨_, rfl, rfl, kF13, ⟨_, _, _, _, _, _, _, _, g0_kr1, ⟨f4, f5, f6, rfl, rfl, f9, f10, f11, f13, f14, f16, f27⟩, kh2, kh3, kh4, kh5, kh6, kh7, kh8, kR9, kR10, kR11, kR12, gr, gS, gK, hm8, gU, hn60, hT, hll, hln⟩⟩)

set_option maxHeartbeats 400000 in
set_option maxRecDepth 100000 in
theorem qX10_denialCauseN {X : zX} (hX : X.1.stackTraces = false) {σ : zS} {y : Nat} {w tm cd dn : Int32} {K : zDk} {A S : zDk} {m : Nat} {U : Nat → zDk} {n : Nat} {T : Nat → Int32} {ll : Nat} {ln : Nat → Int32} {hs kf ld dt dc : Int32} (hM : zMo y w tm cd dn K A S m U n T ll ln hs kf ld dt dc σ) (gA : zGd A) (hz : dc = 0) : zMet X mX10_denialCause yX10_denialCause 2 0 0 [.ref y] σ (zI (fun y_ s => True ∧ zFr σ s (zMq y) ∧ zMo y w tm 1 0 K A S m U n T ll ln hs kf ld dt dc s)) := by
  refine zMet_of (ls := [some (.ref y)]) rfl (by decide +kernel) rfl (fun h => by cases h) hX (Nat.le_of_ble_eq_true rfl) rfl ?_
  obtain ⟨F, g, kp, sv, bf, ip, sg, td, h0, hf, h1, h2, h3, h4, h5, h6, h11, hWa, hC, hX9, hOt, gr, gS, gK, hm8, gU, hn60, hT, hll, hln⟩ := id hM
  obtain ⟨f4, f5, f6, f7, f8, f9, f10, f11, f13, f14, f16, f27⟩ := id hf
  have hA := gA.1
  obtain ⟨r0, r1, rc, rp⟩ := id gr
  obtain ⟨hC8, hP8, hW⟩ := id hA
  refine zr_aload_n dX10_denialCause_0 rfl ?_
  refine zr_aload_n dX10_denialCause_1 rfl ?_
  refine zr_getM (v := .int (F 11)) dX10_denialCause_2 fX10_62 h0 rfl ?_
  refine zr_eqi (x' := dc) (f11) ?_
  refine zr_if_ne (tgt := 12) dX10_denialCause_5 (by decide) (fun c_5 => absurd (hz) c_5) (fun c_5 => ?_)
  refine zr_iconst (v := 1) dX10_denialCause_8 (by decide) ?_
  refine zr_goto (tgt := 13) dX10_denialCause_9 (by decide) ?_
  refine zr_callVi [] dX10_denialCause_13 vX10_135 (qX10_fails hX (p := 1) h0) h0 (by decide) (by decide) (by decide) rfl rfl (Nat.le_of_ble_eq_true rfl) (by decide) rfl (fun kr1 s_kr1 h_kr1 => ?_)
  obtain ⟨e_kr1, F_kr1, g0_kr1⟩ := h_kr1
  have kh2 : s_kr1.1 (y + 1) = .inl (0, 82, .inl g) := zFr.get F_kr1 (by omega) h1
  have kh3 : s_kr1.1 (y + 2) = .inl (0, 656, .inl kp) := zFr.get F_kr1 (by omega) h2
  have kh4 : s_kr1.1 (y + 3) = .inl (0, 82, .inl sv) := zFr.get F_kr1 (by omega) h3
  have kh5 : s_kr1.1 (y + 4) = .inl (0, 82, .inl bf) := zFr.get F_kr1 (by omega) h4
  have kh6 : s_kr1.1 (y + 5) = .inl (0, 60, .inl ip) := zFr.get F_kr1 (by omega) h5
  have kh7 : s_kr1.1 (y + 6) = .inl (1, 400, .inl sg) := zFr.get F_kr1 (by omega) h6
  have kh8 : s_kr1.1 (y + 11) = .inl (0, 93, .inl td) := zFr.get F_kr1 (by omega) h11
  have kR9 : zWa y s_kr1 := zWa.fr hWa F_kr1 (by intro q h1 h2 h3; (try simp only [zIn, zJf] at h3); omega)
  have kR10 : zCy y s_kr1 := zCy.fr hC F_kr1 (by intro q h1 h2 h3; (try simp only [zIn, zJf] at h3); omega)
  have kR11 : zXa y s_kr1 := zXa.fr hX9 F_kr1 (by intro q h1 h2 h3; (try simp only [zIn, zJf] at h3); omega)
  have kR12 : zOa y s_kr1 := zOa.fr hOt F_kr1 (by intro q h1 h2 h3; (try simp only [zIn, zJf] at h3); omega)
  have kF13 := zFr.tr zFr.rf (P := zMq y) F_kr1 (by intro q hq; unfold zMq; omega)
  replace e_kr1 := e_kr1.trans (if_neg (by decide) : (_ : Int32) = 1)
  obtain rfl := e_kr1.symm
  refine zr_if_eq (tgt := 23) dX10_denialCause_16 (by decide) (fun c_16 => absurd c_16 (by decide)) (fun c_16 => ?_)
  refine zr_iconst (v := 0) dX10_denialCause_19 (by decide) ?_
  refine zr_goto (tgt := 27) dX10_denialCause_20 (by decide) ?_
  exact zr_ireturn dX10_denialCause_27 rfl (rfl) (⟨_, rfl, trivial, kF13, ⟨_, _, _, _, _, _, _, _, g0_kr1, ⟨f4, f5, f6, rfl, rfl, f9, f10, f11, f13, f14, f16, f27⟩, kh2, kh3, kh4, kh5, kh6, kh7, kh8, kR9, kR10, kR11, kR12, gr, gS, gK, hm8, gU, hn60, hT, hll, hln⟩⟩)

set_option maxHeartbeats 400000 in
set_option maxRecDepth 100000 in
theorem qX10_faultPosition {X : zX} (hX : X.1.stackTraces = false) {σ : zS} {y : Nat} {w tm cd dn : Int32} {K : zDk} {A S : zDk} {m : Nat} {U : Nat → zDk} {n : Nat} {T : Nat → Int32} {ll : Nat} {ln : Nat → Int32} {hs kf ld dt dc : Int32} (hM : zMo y w tm cd dn K A S m U n T ll ln hs kf ld dt dc σ) (gA : zGd A) (hz : 0 ≤ kf) : zMet X mX10_faultPosition yX10_faultPosition 2 0 0 [.ref y] σ (zI (fun y_ s => y_ = kf ∧ zFr σ s (zMq y) ∧ zMo y w tm 0 0 K A S m U n T ll ln hs kf ld dt dc s)) := by
  refine zMet_of (ls := [some (.ref y)]) rfl (by decide +kernel) rfl (fun h => by cases h) hX (Nat.le_of_ble_eq_true rfl) rfl ?_
  obtain ⟨F, g, kp, sv, bf, ip, sg, td, h0, hf, h1, h2, h3, h4, h5, h6, h11, hWa, hC, hX9, hOt, gr, gS, gK, hm8, gU, hn60, hT, hll, hln⟩ := id hM
  obtain ⟨f4, f5, f6, f7, f8, f9, f10, f11, f13, f14, f16, f27⟩ := id hf
  have hA := gA.1
  obtain ⟨r0, r1, rc, rp⟩ := id gr
  obtain ⟨hC8, hP8, hW⟩ := id hA
  refine zr_aload_n dX10_faultPosition_0 rfl ?_
  refine zr_aload_n dX10_faultPosition_1 rfl ?_
  refine zr_getM (v := .int (F 14)) dX10_faultPosition_2 fX10_25 h0 rfl ?_
  refine zr_eqi (x' := kf) (f14) ?_
  refine zr_if_ge (tgt := 12) dX10_faultPosition_5 (by decide) (fun c_5 => ?_) (fun c_5 => absurd (hz) c_5)
  refine zr_iconst (v := 0) dX10_faultPosition_12 (by decide) ?_
  refine zr_callVi [] dX10_faultPosition_13 vX10_135 (qX10_fails hX (p := 0) h0) h0 (by decide) (by decide) (by decide) rfl rfl (Nat.le_of_ble_eq_true rfl) (by decide) rfl (fun kr1 s_kr1 h_kr1 => ?_)
  obtain ⟨e_kr1, F_kr1, g0_kr1⟩ := h_kr1
  have kh2 : s_kr1.1 (y + 1) = .inl (0, 82, .inl g) := zFr.get F_kr1 (by omega) h1
  have kh3 : s_kr1.1 (y + 2) = .inl (0, 656, .inl kp) := zFr.get F_kr1 (by omega) h2
  have kh4 : s_kr1.1 (y + 3) = .inl (0, 82, .inl sv) := zFr.get F_kr1 (by omega) h3
  have kh5 : s_kr1.1 (y + 4) = .inl (0, 82, .inl bf) := zFr.get F_kr1 (by omega) h4
  have kh6 : s_kr1.1 (y + 5) = .inl (0, 60, .inl ip) := zFr.get F_kr1 (by omega) h5
  have kh7 : s_kr1.1 (y + 6) = .inl (1, 400, .inl sg) := zFr.get F_kr1 (by omega) h6
  have kh8 : s_kr1.1 (y + 11) = .inl (0, 93, .inl td) := zFr.get F_kr1 (by omega) h11
  have kR9 : zWa y s_kr1 := zWa.fr hWa F_kr1 (by intro q h1 h2 h3; (try simp only [zIn, zJf] at h3); omega)
  have kR10 : zCy y s_kr1 := zCy.fr hC F_kr1 (by intro q h1 h2 h3; (try simp only [zIn, zJf] at h3); omega)
  have kR11 : zXa y s_kr1 := zXa.fr hX9 F_kr1 (by intro q h1 h2 h3; (try simp only [zIn, zJf] at h3); omega)
  have kR12 : zOa y s_kr1 := zOa.fr hOt F_kr1 (by intro q h1 h2 h3; (try simp only [zIn, zJf] at h3); omega)
  have kF13 := zFr.tr zFr.rf (P := zMq y) F_kr1 (by intro q hq; unfold zMq; omega)
  replace e_kr1 := e_kr1.trans (if_pos (by decide) : (_ : Int32) = 0)
  obtain rfl := e_kr1.symm
  refine zr_if_eq (tgt := 23) dX10_faultPosition_16 (by decide) (fun c_16 => ?_) (fun c_16 => absurd (by decide) c_16)
  refine zr_aload_n dX10_faultPosition_23 rfl ?_
  refine zr_getM (v := .int (F 14)) dX10_faultPosition_24 fX10_25 g0_kr1 rfl ?_
  refine zr_eqi (x' := kf) (f14) ?_
  exact zr_ireturn dX10_faultPosition_27 rfl (rfl) (⟨_, rfl, rfl, kF13, ⟨_, _, _, _, _, _, _, _, g0_kr1, ⟨f4, f5, f6, rfl, rfl, f9, f10, f11, f13, f14, f16, f27⟩, kh2, kh3, kh4, kh5, kh6, kh7, kh8, kR9, kR10, kR11, kR12, gr, gS, gK, hm8, gU, hn60, hT, hll, hln⟩⟩)

set_option maxHeartbeats 400000 in
set_option maxRecDepth 100000 in
theorem qX10_faultPositionN {X : zX} (hX : X.1.stackTraces = false) {σ : zS} {y : Nat} {w tm cd dn : Int32} {K : zDk} {A S : zDk} {m : Nat} {U : Nat → zDk} {n : Nat} {T : Nat → Int32} {ll : Nat} {ln : Nat → Int32} {hs kf ld dt dc : Int32} (hM : zMo y w tm cd dn K A S m U n T ll ln hs kf ld dt dc σ) (gA : zGd A) (hz : kf = -1) : zMet X mX10_faultPosition yX10_faultPosition 2 0 0 [.ref y] σ (zI (fun y_ s => True ∧ zFr σ s (zMq y) ∧ zMo y w tm 1 0 K A S m U n T ll ln hs kf ld dt dc s)) := by
  refine zMet_of (ls := [some (.ref y)]) rfl (by decide +kernel) rfl (fun h => by cases h) hX (Nat.le_of_ble_eq_true rfl) rfl ?_
  obtain ⟨F, g, kp, sv, bf, ip, sg, td, h0, hf, h1, h2, h3, h4, h5, h6, h11, hWa, hC, hX9, hOt, gr, gS, gK, hm8, gU, hn60, hT, hll, hln⟩ := id hM
  obtain ⟨f4, f5, f6, f7, f8, f9, f10, f11, f13, f14, f16, f27⟩ := id hf
  have hA := gA.1
  obtain ⟨r0, r1, rc, rp⟩ := id gr
  obtain ⟨hC8, hP8, hW⟩ := id hA
  refine zr_aload_n dX10_faultPosition_0 rfl ?_
  refine zr_aload_n dX10_faultPosition_1 rfl ?_
  refine zr_getM (v := .int (F 14)) dX10_faultPosition_2 fX10_25 h0 rfl ?_
  refine zr_eqi (x' := kf) (f14) ?_
  refine zr_if_ge (tgt := 12) dX10_faultPosition_5 (by decide) (fun c_5 => absurd c_5 (by rw [hz]; decide)) (fun c_5 => ?_)
  refine zr_iconst (v := 1) dX10_faultPosition_8 (by decide) ?_
  refine zr_goto (tgt := 13) dX10_faultPosition_9 (by decide) ?_
  refine zr_callVi [] dX10_faultPosition_13 vX10_135 (qX10_fails hX (p := 1) h0) h0 (by decide) (by decide) (by decide) rfl rfl (Nat.le_of_ble_eq_true rfl) (by decide) rfl (fun kr1 s_kr1 h_kr1 => ?_)
  obtain ⟨e_kr1, F_kr1, g0_kr1⟩ := h_kr1
  have kh2 : s_kr1.1 (y + 1) = .inl (0, 82, .inl g) := zFr.get F_kr1 (by omega) h1
  have kh3 : s_kr1.1 (y + 2) = .inl (0, 656, .inl kp) := zFr.get F_kr1 (by omega) h2
  have kh4 : s_kr1.1 (y + 3) = .inl (0, 82, .inl sv) := zFr.get F_kr1 (by omega) h3
  have kh5 : s_kr1.1 (y + 4) = .inl (0, 82, .inl bf) := zFr.get F_kr1 (by omega) h4
  have kh6 : s_kr1.1 (y + 5) = .inl (0, 60, .inl ip) := zFr.get F_kr1 (by omega) h5
  have kh7 : s_kr1.1 (y + 6) = .inl (1, 400, .inl sg) := zFr.get F_kr1 (by omega) h6
  have kh8 : s_kr1.1 (y + 11) = .inl (0, 93, .inl td) := zFr.get F_kr1 (by omega) h11
  have kR9 : zWa y s_kr1 := zWa.fr hWa F_kr1 (by intro q h1 h2 h3; (try simp only [zIn, zJf] at h3); omega)
  have kR10 : zCy y s_kr1 := zCy.fr hC F_kr1 (by intro q h1 h2 h3; (try simp only [zIn, zJf] at h3); omega)
  have kR11 : zXa y s_kr1 := zXa.fr hX9 F_kr1 (by intro q h1 h2 h3; (try simp only [zIn, zJf] at h3); omega)
  have kR12 : zOa y s_kr1 := zOa.fr hOt F_kr1 (by intro q h1 h2 h3; (try simp only [zIn, zJf] at h3); omega)
  have kF13 := zFr.tr zFr.rf (P := zMq y) F_kr1 (by intro q hq; unfold zMq; omega)
  replace e_kr1 := e_kr1.trans (if_neg (by decide) : (_ : Int32) = 1)
  obtain rfl := e_kr1.symm
  refine zr_if_eq (tgt := 23) dX10_faultPosition_16 (by decide) (fun c_16 => absurd c_16 (by decide)) (fun c_16 => ?_)
  refine zr_iconst (v := 0) dX10_faultPosition_19 (by decide) ?_
  refine zr_goto (tgt := 27) dX10_faultPosition_20 (by decide) ?_
  exact zr_ireturn dX10_faultPosition_27 rfl (rfl) (⟨_, rfl, trivial, kF13, ⟨_, _, _, _, _, _, _, _, g0_kr1, ⟨f4, f5, f6, rfl, rfl, f9, f10, f11, f13, f14, f16, f27⟩, kh2, kh3, kh4, kh5, kh6, kh7, kh8, kR9, kR10, kR11, kR12, gr, gS, gK, hm8, gU, hn60, hT, hll, hln⟩⟩)

set_option maxHeartbeats 400000 in
set_option maxRecDepth 100000 in
theorem qX10_feed {X : zX} (hX : X.1.stackTraces = false) {σ : zS} {y : Nat} {w tm cd dn : Int32} {K : zDk} {A S : zDk} {m : Nat} {U : Nat → zDk} {n : Nat} {T : Nat → Int32} {ll : Nat} {ln : Nat → Int32} {hs kf ld dt dc : Int32} {c : Int32} (hM : zMo y w tm cd dn K A S m U n T ll ln hs kf ld dt dc σ) (gA : zGd A) (n6 : n < 60) : zMet X mX10_feed yX10_feed 2 0 0 [.ref y, .int c] σ (zI (fun y_ s => y_ = nI (n + 1) ∧ zFr σ s (zMq y) ∧ zMo y w tm 0 0 K A S m U (n + 1) (upd T n c) ll ln hs kf ld dt dc s)) := by
  refine zMet_of (ls := [some (.ref y), some (.int c)]) rfl (by decide +kernel) rfl (fun h => by cases h) hX (Nat.le_of_ble_eq_true rfl) rfl ?_
  obtain ⟨F, g, kp, sv, bf, ip, sg, td, h0, hf, h1, h2, h3, h4, h5, h6, h11, hWa, hC, hX9, hOt, gr, gS, gK, hm8, gU, hn60, hT, hll, hln⟩ := id hM
  obtain ⟨f4, f5, f6, f7, f8, f9, f10, f11, f13, f14, f16, f27⟩ := id hf
  have hA := gA.1
  obtain ⟨r0, r1, rc, rp⟩ := id gr
  obtain ⟨hC8, hP8, hW⟩ := id hA
  refine zr_aload_n dX10_feed_0 rfl ?_
  refine zr_aload_n dX10_feed_1 rfl ?_
  refine zr_getM (v := .int (F 13)) dX10_feed_2 fX10_225 h0 rfl ?_
  refine zr_eqi (x' := nI n) (f13) ?_
  refine zr_bipush (v := 60) dX10_feed_5 (by decide) ?_
  refine zr_icmp_ne (tgt := 14) dX10_feed_7 (by decide) (fun c_7 => ?_) (fun c_7 => absurd c_7 (fun q => by have z := (nI_eq (b := 60) (by omega) (by omega)).mp q; omega))
  refine zr_iconst (v := 0) dX10_feed_14 (by decide) ?_
  refine zr_callVi [] dX10_feed_15 vX10_135 (qX10_fails hX (p := 0) h0) h0 (by decide) (by decide) (by decide) rfl rfl (Nat.le_of_ble_eq_true rfl) (by decide) rfl (fun kr1 s_kr1 h_kr1 => ?_)
  obtain ⟨e_kr1, F_kr1, g0_kr1⟩ := h_kr1
  have kh2 : s_kr1.1 (y + 1) = .inl (0, 82, .inl g) := zFr.get F_kr1 (by omega) h1
  have kh3 : s_kr1.1 (y + 2) = .inl (0, 656, .inl kp) := zFr.get F_kr1 (by omega) h2
  have kh4 : s_kr1.1 (y + 3) = .inl (0, 82, .inl sv) := zFr.get F_kr1 (by omega) h3
  have kh5 : s_kr1.1 (y + 4) = .inl (0, 82, .inl bf) := zFr.get F_kr1 (by omega) h4
  have kh6 : s_kr1.1 (y + 5) = .inl (0, 60, .inl ip) := zFr.get F_kr1 (by omega) h5
  have kh7 : s_kr1.1 (y + 6) = .inl (1, 400, .inl sg) := zFr.get F_kr1 (by omega) h6
  have kh8 : s_kr1.1 (y + 11) = .inl (0, 93, .inl td) := zFr.get F_kr1 (by omega) h11
  have kR9 : zWa y s_kr1 := zWa.fr hWa F_kr1 (by intro q h1 h2 h3; (try simp only [zIn, zJf] at h3); omega)
  have kR10 : zCy y s_kr1 := zCy.fr hC F_kr1 (by intro q h1 h2 h3; (try simp only [zIn, zJf] at h3); omega)
  have kR11 : zXa y s_kr1 := zXa.fr hX9 F_kr1 (by intro q h1 h2 h3; (try simp only [zIn, zJf] at h3); omega)
  have kR12 : zOa y s_kr1 := zOa.fr hOt F_kr1 (by intro q h1 h2 h3; (try simp only [zIn, zJf] at h3); omega)
  have kF13 := zFr.tr zFr.rf (P := zMq y) F_kr1 (by intro q hq; unfold zMq; omega)
  replace e_kr1 := e_kr1.trans (if_pos (by decide) : (_ : Int32) = 0)
  obtain rfl := e_kr1.symm
  refine zr_if_eq (tgt := 23) dX10_feed_18 (by decide) (fun c_18 => ?_) (fun c_18 => absurd (by decide) c_18)
  refine zr_aload_n dX10_feed_23 rfl ?_
  refine zr_getM (v := .ref (y + 5)) dX10_feed_24 fX10_22 g0_kr1 rfl ?_
  refine zr_aload_n dX10_feed_27 rfl ?_
  refine zr_getM (v := .int (F 13)) dX10_feed_28 fX10_225 g0_kr1 rfl ?_
  refine zr_eqi (x' := nI n) (f13) ?_
  refine zr_iload_n dX10_feed_31 rfl ?_
  refine zr_iastore dX10_feed_32 kh6 (vp_in_nI (n := n) (by omega) (by omega)) ?_
  rw [nI_clamp (n := n) (by omega)]
  refine zr_sig (fun ks14 e_ks14 => ?_)
  have kh15 : ks14.1 y = zmO y (upd (upd F 7 0) 8 0) := by rw [e_ks14, zup_ne _ _ (by omega)]; exact g0_kr1
  have kh16 : ks14.1 (y + 1) = .inl (0, 82, .inl g) := by rw [e_ks14, zup_ne _ _ (by omega)]; exact kh2
  have kh17 : ks14.1 (y + 2) = .inl (0, 656, .inl kp) := by rw [e_ks14, zup_ne _ _ (by omega)]; exact kh3
  have kh18 : ks14.1 (y + 3) = .inl (0, 82, .inl sv) := by rw [e_ks14, zup_ne _ _ (by omega)]; exact kh4
  have kh19 : ks14.1 (y + 4) = .inl (0, 82, .inl bf) := by rw [e_ks14, zup_ne _ _ (by omega)]; exact kh5
  have kh20 : ks14.1 (y + 5) = .inl (0, 60, .inl (upd ip n c)) := by rw [e_ks14]; exact zup_at _ _ _
  have kh21 : ks14.1 (y + 6) = .inl (1, 400, .inl sg) := by rw [e_ks14, zup_ne _ _ (by omega)]; exact kh7
  have kh22 : ks14.1 (y + 11) = .inl (0, 93, .inl td) := by rw [e_ks14, zup_ne _ _ (by omega)]; exact kh8
  have kF23 := zFr.put kF13 e_ks14 (by unfold zMq; omega)
  have kR24 : zWa y ks14 := zWa.fr kR9 (zFr.put (P := fun q => q = (y + 5)) zFr.rf e_ks14 rfl) (by intro q h1 h2 h3; (try simp only [zIn, zJf] at h3); omega)
  have kR25 : zCy y ks14 := zCy.fr kR10 (zFr.put (P := fun q => q = (y + 5)) zFr.rf e_ks14 rfl) (by intro q h1 h2 h3; (try simp only [zIn, zJf] at h3); omega)
  have kR26 : zXa y ks14 := zXa.fr kR11 (zFr.put (P := fun q => q = (y + 5)) zFr.rf e_ks14 rfl) (by intro q h1 h2 h3; (try simp only [zIn, zJf] at h3); omega)
  have kR27 : zOa y ks14 := zOa.fr kR12 (zFr.put (P := fun q => q = (y + 5)) zFr.rf e_ks14 rfl) (by intro q h1 h2 h3; (try simp only [zIn, zJf] at h3); omega)
  refine zr_aload_n dX10_feed_33 rfl ?_
  refine zr_dup dX10_feed_34 rfl ?_
  refine zr_getM (v := .int (F 13)) dX10_feed_35 fX10_225 kh15 rfl ?_
  refine zr_eqi (x' := nI n) (f13) ?_
  refine zr_iconst (v := 1) dX10_feed_38 (by decide) ?_
  refine zr_iadd dX10_feed_39 ?_
  refine zr_eqi (x' := nI (n + 1)) (nI_add n 1) ?_
  refine zr_putM (v := nI (n + 1)) dX10_feed_40 pX10_225 kh15 (rfl) (rfl) (Nat.le_of_ble_eq_true rfl) (zms_13 _ _ _) ?_
  refine zr_sig (fun ks28 e_ks28 => ?_)
  have kh29 : ks28.1 y = zmO y (upd (upd (upd F 7 0) 8 0) 13 (nI (n + 1))) := by rw [e_ks28]; exact zup_at _ _ _
  have kh30 : ks28.1 (y + 1) = .inl (0, 82, .inl g) := by rw [e_ks28, zup_ne _ _ (by omega)]; exact kh16
  have kh31 : ks28.1 (y + 2) = .inl (0, 656, .inl kp) := by rw [e_ks28, zup_ne _ _ (by omega)]; exact kh17
  have kh32 : ks28.1 (y + 3) = .inl (0, 82, .inl sv) := by rw [e_ks28, zup_ne _ _ (by omega)]; exact kh18
  have kh33 : ks28.1 (y + 4) = .inl (0, 82, .inl bf) := by rw [e_ks28, zup_ne _ _ (by omega)]; exact kh19
  have kh34 : ks28.1 (y + 5) = .inl (0, 60, .inl (upd ip n c)) := by rw [e_ks28, zup_ne _ _ (by omega)]; exact kh20
  have kh35 : ks28.1 (y + 6) = .inl (1, 400, .inl sg) := by rw [e_ks28, zup_ne _ _ (by omega)]; exact kh21
  have kh36 : ks28.1 (y + 11) = .inl (0, 93, .inl td) := by rw [e_ks28, zup_ne _ _ (by omega)]; exact kh22
  have kF37 := zFr.put kF23 e_ks28 (by unfold zMq; omega)
  have kR38 : zWa y ks28 := zWa.fr kR24 (zFr.put (P := fun q => q = y) zFr.rf e_ks28 rfl) (by intro q h1 h2 h3; (try simp only [zIn, zJf] at h3); omega)
  have kR39 : zCy y ks28 := zCy.fr kR25 (zFr.put (P := fun q => q = y) zFr.rf e_ks28 rfl) (by intro q h1 h2 h3; (try simp only [zIn, zJf] at h3); omega)
  have kR40 : zXa y ks28 := zXa.fr kR26 (zFr.put (P := fun q => q = y) zFr.rf e_ks28 rfl) (by intro q h1 h2 h3; (try simp only [zIn, zJf] at h3); omega)
  have kR41 : zOa y ks28 := zOa.fr kR27 (zFr.put (P := fun q => q = y) zFr.rf e_ks28 rfl) (by intro q h1 h2 h3; (try simp only [zIn, zJf] at h3); omega)
  refine zr_aload_n dX10_feed_43 rfl ?_
  refine zr_getM (v := .int (nI (n + 1))) dX10_feed_44 fX10_225 kh29 rfl ?_
  exact zr_ireturn dX10_feed_47 rfl (rfl) (⟨_, rfl, rfl, kF37, ⟨_, _, _, _, _, _, _, _, kh29, ⟨f4, f5, f6, rfl, rfl, f9, f10, f11, rfl, f14, f16, f27⟩, kh30, kh31, kh32, kh33, kh34, kh35, kh36, kR38, kR39, kR40, kR41, gr, gS, gK, hm8, gU, (by omega), (fun k hk => by simp only [upd]; split; rfl; exact hT k (by omega)), hll, hln⟩⟩)

set_option maxHeartbeats 400000 in
set_option maxRecDepth 100000 in
theorem qX10_feedN {X : zX} (hX : X.1.stackTraces = false) {σ : zS} {y : Nat} {w tm cd dn : Int32} {K : zDk} {A S : zDk} {m : Nat} {U : Nat → zDk} {n : Nat} {T : Nat → Int32} {ll : Nat} {ln : Nat → Int32} {hs kf ld dt dc : Int32} {c : Int32} (hM : zMo y w tm cd dn K A S m U n T ll ln hs kf ld dt dc σ) (gA : zGd A) (n6 : n = 60) : zMet X mX10_feed yX10_feed 2 0 0 [.ref y, .int c] σ (zI (fun y_ s => True ∧ zFr σ s (zMq y) ∧ zMo y w tm 1 0 K A S m U n T ll ln hs kf ld dt dc s)) := by
  refine zMet_of (ls := [some (.ref y), some (.int c)]) rfl (by decide +kernel) rfl (fun h => by cases h) hX (Nat.le_of_ble_eq_true rfl) rfl ?_
  obtain ⟨F, g, kp, sv, bf, ip, sg, td, h0, hf, h1, h2, h3, h4, h5, h6, h11, hWa, hC, hX9, hOt, gr, gS, gK, hm8, gU, hn60, hT, hll, hln⟩ := id hM
  obtain ⟨f4, f5, f6, f7, f8, f9, f10, f11, f13, f14, f16, f27⟩ := id hf
  have hA := gA.1
  obtain ⟨r0, r1, rc, rp⟩ := id gr
  obtain ⟨hC8, hP8, hW⟩ := id hA
  refine zr_aload_n dX10_feed_0 rfl ?_
  refine zr_aload_n dX10_feed_1 rfl ?_
  refine zr_getM (v := .int (F 13)) dX10_feed_2 fX10_225 h0 rfl ?_
  refine zr_eqi (x' := nI n) (f13) ?_
  refine zr_bipush (v := 60) dX10_feed_5 (by decide) ?_
  refine zr_icmp_ne (tgt := 14) dX10_feed_7 (by decide) (fun c_7 => absurd (by rw [n6]; rfl) c_7) (fun c_7 => ?_)
  refine zr_iconst (v := 1) dX10_feed_10 (by decide) ?_
  refine zr_goto (tgt := 15) dX10_feed_11 (by decide) ?_
  refine zr_callVi [] dX10_feed_15 vX10_135 (qX10_fails hX (p := 1) h0) h0 (by decide) (by decide) (by decide) rfl rfl (Nat.le_of_ble_eq_true rfl) (by decide) rfl (fun kr1 s_kr1 h_kr1 => ?_)
  obtain ⟨e_kr1, F_kr1, g0_kr1⟩ := h_kr1
  have kh2 : s_kr1.1 (y + 1) = .inl (0, 82, .inl g) := zFr.get F_kr1 (by omega) h1
  have kh3 : s_kr1.1 (y + 2) = .inl (0, 656, .inl kp) := zFr.get F_kr1 (by omega) h2
  have kh4 : s_kr1.1 (y + 3) = .inl (0, 82, .inl sv) := zFr.get F_kr1 (by omega) h3
  have kh5 : s_kr1.1 (y + 4) = .inl (0, 82, .inl bf) := zFr.get F_kr1 (by omega) h4
  have kh6 : s_kr1.1 (y + 5) = .inl (0, 60, .inl ip) := zFr.get F_kr1 (by omega) h5
  have kh7 : s_kr1.1 (y + 6) = .inl (1, 400, .inl sg) := zFr.get F_kr1 (by omega) h6
  have kh8 : s_kr1.1 (y + 11) = .inl (0, 93, .inl td) := zFr.get F_kr1 (by omega) h11
  have kR9 : zWa y s_kr1 := zWa.fr hWa F_kr1 (by intro q h1 h2 h3; (try simp only [zIn, zJf] at h3); omega)
  have kR10 : zCy y s_kr1 := zCy.fr hC F_kr1 (by intro q h1 h2 h3; (try simp only [zIn, zJf] at h3); omega)
  have kR11 : zXa y s_kr1 := zXa.fr hX9 F_kr1 (by intro q h1 h2 h3; (try simp only [zIn, zJf] at h3); omega)
  have kR12 : zOa y s_kr1 := zOa.fr hOt F_kr1 (by intro q h1 h2 h3; (try simp only [zIn, zJf] at h3); omega)
  have kF13 := zFr.tr zFr.rf (P := zMq y) F_kr1 (by intro q hq; unfold zMq; omega)
  replace e_kr1 := e_kr1.trans (if_neg (by decide) : (_ : Int32) = 1)
  obtain rfl := e_kr1.symm
  refine zr_if_eq (tgt := 23) dX10_feed_18 (by decide) (fun c_18 => absurd c_18 (by decide)) (fun c_18 => ?_)
  refine zr_iconst (v := 0) dX10_feed_21 (by decide) ?_
  exact zr_ireturn dX10_feed_22 rfl (rfl) (⟨_, rfl, trivial, kF13, ⟨_, _, _, _, _, _, _, _, g0_kr1, ⟨f4, f5, f6, rfl, rfl, f9, f10, f11, f13, f14, f16, f27⟩, kh2, kh3, kh4, kh5, kh6, kh7, kh8, kR9, kR10, kR11, kR12, gr, gS, gK, hm8, gU, hn60, hT, hll, hln⟩⟩)

set_option maxHeartbeats 400000 in
set_option maxRecDepth 100000 in
theorem qX10_undo {X : zX} (hX : X.1.stackTraces = false) {σ : zS} {y : Nat} {w tm cd dn : Int32} {K : zDk} {A S : zDk} {m : Nat} {U : Nat → zDk} {n : Nat} {T : Nat → Int32} {ll : Nat} {ln : Nat → Int32} {hs kf ld dt dc : Int32} (hM : zMo y w tm cd dn K A S m U n T ll ln hs kf ld dt dc σ) (gA : zGd A) (hm : 0 < m) (wU : ∀ t, t < m → zDw (U t)) : zMet X mX10_undo yX10_undo 2 0 0 [.ref y] σ (zI (fun y_ s => y_ = nI (m - 1) ∧ zFr σ s (zMq y) ∧ zMo y w tm 0 0 K (U 0) S (m - 1) (fun t => U (t + 1)) n T ll ln hs kf ld dt dc s)) := by
  refine zMet_of (ls := [some (.ref y)]) rfl (by decide +kernel) rfl (fun h => by cases h) hX (Nat.le_of_ble_eq_true rfl) rfl ?_
  obtain ⟨F, g, kp, sv, bf, ip, sg, td, h0, hf, h1, h2, h3, h4, h5, h6, h11, hWa, hC, hX9, hOt, gr, gS, gK, hm8, gU, hn60, hT, hll, hln⟩ := id hM
  obtain ⟨f4, f5, f6, f7, f8, f9, f10, f11, f13, f14, f16, f27⟩ := id hf
  have hA := gA.1
  obtain ⟨r0, r1, rc, rp⟩ := id gr
  obtain ⟨hC8, hP8, hW⟩ := id hA
  refine zr_aload_n dX10_undo_0 rfl ?_
  refine zr_aload_n dX10_undo_1 rfl ?_
  refine zr_getM (v := .int (F 5)) dX10_undo_2 fX10_68 h0 rfl ?_
  refine zr_eqi (x' := nI m) (f5) ?_
  refine zr_if_ne (tgt := 12) dX10_undo_5 (by decide) (fun c_5 => ?_) (fun c_5 => absurd c_5 (nI_ne0 hm (by omega)))
  refine zr_iconst (v := 0) dX10_undo_12 (by decide) ?_
  refine zr_callVi [] dX10_undo_13 vX10_135 (qX10_fails hX (p := 0) h0) h0 (by decide) (by decide) (by decide) rfl rfl (Nat.le_of_ble_eq_true rfl) (by decide) rfl (fun kr1 s_kr1 h_kr1 => ?_)
  obtain ⟨e_kr1, F_kr1, g0_kr1⟩ := h_kr1
  have kh2 : s_kr1.1 (y + 1) = .inl (0, 82, .inl g) := zFr.get F_kr1 (by omega) h1
  have kh3 : s_kr1.1 (y + 2) = .inl (0, 656, .inl kp) := zFr.get F_kr1 (by omega) h2
  have kh4 : s_kr1.1 (y + 3) = .inl (0, 82, .inl sv) := zFr.get F_kr1 (by omega) h3
  have kh5 : s_kr1.1 (y + 4) = .inl (0, 82, .inl bf) := zFr.get F_kr1 (by omega) h4
  have kh6 : s_kr1.1 (y + 5) = .inl (0, 60, .inl ip) := zFr.get F_kr1 (by omega) h5
  have kh7 : s_kr1.1 (y + 6) = .inl (1, 400, .inl sg) := zFr.get F_kr1 (by omega) h6
  have kh8 : s_kr1.1 (y + 11) = .inl (0, 93, .inl td) := zFr.get F_kr1 (by omega) h11
  have kR9 : zWa y s_kr1 := zWa.fr hWa F_kr1 (by intro q h1 h2 h3; (try simp only [zIn, zJf] at h3); omega)
  have kR10 : zCy y s_kr1 := zCy.fr hC F_kr1 (by intro q h1 h2 h3; (try simp only [zIn, zJf] at h3); omega)
  have kR11 : zXa y s_kr1 := zXa.fr hX9 F_kr1 (by intro q h1 h2 h3; (try simp only [zIn, zJf] at h3); omega)
  have kR12 : zOa y s_kr1 := zOa.fr hOt F_kr1 (by intro q h1 h2 h3; (try simp only [zIn, zJf] at h3); omega)
  have kF13 := zFr.tr zFr.rf (P := zMq y) F_kr1 (by intro q hq; unfold zMq; omega)
  replace e_kr1 := e_kr1.trans (if_pos (by decide) : (_ : Int32) = 0)
  obtain rfl := e_kr1.symm
  refine zr_if_eq (tgt := 21) dX10_undo_16 (by decide) (fun c_16 => ?_) (fun c_16 => absurd (by decide) c_16)
  refine zr_aload_n dX10_undo_21 rfl ?_
  refine zr_dup dX10_undo_22 rfl ?_
  refine zr_getM (v := .int (F 5)) dX10_undo_23 fX10_68 g0_kr1 rfl ?_
  refine zr_eqi (x' := nI m) (f5) ?_
  refine zr_iconst (v := 1) dX10_undo_26 (by decide) ?_
  refine zr_isub dX10_undo_27 ?_
  refine zr_eqi (x' := nI (m - 1)) (pk_sub (a := m) (b := 1) (by omega)) ?_
  refine zr_putM (v := nI (m - 1)) dX10_undo_28 pX10_68 g0_kr1 (rfl) (rfl) (Nat.le_of_ble_eq_true rfl) (zms_5 _ _ _) ?_
  refine zr_sig (fun ks14 e_ks14 => ?_)
  have kh15 : ks14.1 y = zmO y (upd (upd (upd F 5 (nI (m - 1))) 7 0) 8 0) := by rw [e_ks14]; exact zup_at _ _ _
  have kh16 : ks14.1 (y + 1) = .inl (0, 82, .inl g) := by rw [e_ks14, zup_ne _ _ (by omega)]; exact kh2
  have kh17 : ks14.1 (y + 2) = .inl (0, 656, .inl kp) := by rw [e_ks14, zup_ne _ _ (by omega)]; exact kh3
  have kh18 : ks14.1 (y + 3) = .inl (0, 82, .inl sv) := by rw [e_ks14, zup_ne _ _ (by omega)]; exact kh4
  have kh19 : ks14.1 (y + 4) = .inl (0, 82, .inl bf) := by rw [e_ks14, zup_ne _ _ (by omega)]; exact kh5
  have kh20 : ks14.1 (y + 5) = .inl (0, 60, .inl ip) := by rw [e_ks14, zup_ne _ _ (by omega)]; exact kh6
  have kh21 : ks14.1 (y + 6) = .inl (1, 400, .inl sg) := by rw [e_ks14, zup_ne _ _ (by omega)]; exact kh7
  have kh22 : ks14.1 (y + 11) = .inl (0, 93, .inl td) := by rw [e_ks14, zup_ne _ _ (by omega)]; exact kh8
  have kF23 := zFr.put kF13 e_ks14 (by unfold zMq; omega)
  have kR24 : zWa y ks14 := zWa.fr kR9 (zFr.put (P := fun q => q = y) zFr.rf e_ks14 rfl) (by intro q h1 h2 h3; (try simp only [zIn, zJf] at h3); omega)
  have kR25 : zCy y ks14 := zCy.fr kR10 (zFr.put (P := fun q => q = y) zFr.rf e_ks14 rfl) (by intro q h1 h2 h3; (try simp only [zIn, zJf] at h3); omega)
  have kR26 : zXa y ks14 := zXa.fr kR11 (zFr.put (P := fun q => q = y) zFr.rf e_ks14 rfl) (by intro q h1 h2 h3; (try simp only [zIn, zJf] at h3); omega)
  have kR27 : zOa y ks14 := zOa.fr kR12 (zFr.put (P := fun q => q = y) zFr.rf e_ks14 rfl) (by intro q h1 h2 h3; (try simp only [zIn, zJf] at h3); omega)
  refine zr_aload_n dX10_undo_31 rfl ?_
  refine zr_getM (v := .ref (y + 2)) dX10_undo_32 fX10_13 kh15 rfl ?_
  refine zr_bipush (v := 82) dX10_undo_35 (by decide) ?_
  refine zr_aload_n dX10_undo_37 rfl ?_
  refine zr_getM (v := .int (nI (m - 1))) dX10_undo_38 fX10_68 kh15 rfl ?_
  refine zr_imul dX10_undo_41 ?_
  refine zr_eqi (x' := nI (82 * (m - 1))) (pk_mul 82 (m - 1)) ?_
  refine zr_aload_n dX10_undo_42 rfl ?_
  refine zr_getM (v := .ref (y + 1)) dX10_undo_43 fX10_7 kh15 rfl ?_
  refine zr_iconst (v := 0) dX10_undo_46 (by decide) ?_
  refine zr_callSv [] dX10_undo_47 vX10_71 (qX10_copies hX (p := 82 * (m - 1)) (q := 0) kh17 (by omega) (by omega) (by omega) (by omega) (by omega) kh16) (by decide) (by decide) (by decide) rfl rfl (Nat.le_of_ble_eq_true rfl) rfl (fun s_kr28 h_kr28 => ?_)
  obtain ⟨F_kr28, g0_kr28⟩ := h_kr28
  have kh29 : s_kr28.1 y = zmO y (upd (upd (upd F 5 (nI (m - 1))) 7 0) 8 0) := zFr.get F_kr28 (by omega) kh15
  have kh30 : s_kr28.1 (y + 2) = .inl (0, 656, .inl kp) := zFr.get F_kr28 (by omega) kh17
  have kh31 : s_kr28.1 (y + 3) = .inl (0, 82, .inl sv) := zFr.get F_kr28 (by omega) kh18
  have kh32 : s_kr28.1 (y + 4) = .inl (0, 82, .inl bf) := zFr.get F_kr28 (by omega) kh19
  have kh33 : s_kr28.1 (y + 5) = .inl (0, 60, .inl ip) := zFr.get F_kr28 (by omega) kh20
  have kh34 : s_kr28.1 (y + 6) = .inl (1, 400, .inl sg) := zFr.get F_kr28 (by omega) kh21
  have kh35 : s_kr28.1 (y + 11) = .inl (0, 93, .inl td) := zFr.get F_kr28 (by omega) kh22
  have kR36 : zWa y s_kr28 := zWa.fr kR24 F_kr28 (by intro q h1 h2 h3; (try simp only [zIn, zJf] at h3); omega)
  have kR37 : zCy y s_kr28 := zCy.fr kR25 F_kr28 (by intro q h1 h2 h3; (try simp only [zIn, zJf] at h3); omega)
  have kR38 : zXa y s_kr28 := zXa.fr kR26 F_kr28 (by intro q h1 h2 h3; (try simp only [zIn, zJf] at h3); omega)
  have kR39 : zOa y s_kr28 := zOa.fr kR27 F_kr28 (by intro q h1 h2 h3; (try simp only [zIn, zJf] at h3); omega)
  have kF40 := zFr.tr kF23 F_kr28 (by intro q hq; unfold zMq; omega)
  refine zr_aload_n dX10_undo_50 rfl ?_
  refine zr_getM (v := .int (nI (m - 1))) dX10_undo_51 fX10_68 kh29 rfl ?_
  exact zr_ireturn dX10_undo_54 rfl (rfl) (⟨_, rfl, rfl, kF40, ⟨_, _, _, _, _, _, _, _, kh29, ⟨f4, rfl, f6, rfl, rfl, f9, f10, f11, f13, f14, f16, f27⟩, g0_kr28, kh30, kh31, kh32, kh33, kh34, kh35, kR36, kR37, kR38, kR39, (zGr.cpn (gU 0 hm) (wU 0 hm) (fun k hk => by rw [show m - 1 - 0 = m - 1 from by omega])), gS, gK, (by omega), (fun t ht => by have z := gU (t + 1) (by omega); rwa [show m - 1 - (t + 1) = m - 1 - 1 - t from by omega] at z), hn60, hT, hll, hln⟩⟩)

set_option maxHeartbeats 400000 in
set_option maxRecDepth 100000 in
theorem qX10_undoN {X : zX} (hX : X.1.stackTraces = false) {σ : zS} {y : Nat} {w tm cd dn : Int32} {K : zDk} {A S : zDk} {m : Nat} {U : Nat → zDk} {n : Nat} {T : Nat → Int32} {ll : Nat} {ln : Nat → Int32} {hs kf ld dt dc : Int32} (hM : zMo y w tm cd dn K A S m U n T ll ln hs kf ld dt dc σ) (gA : zGd A) (hm : m = 0) : zMet X mX10_undo yX10_undo 2 0 0 [.ref y] σ (zI (fun y_ s => True ∧ zFr σ s (zMq y) ∧ zMo y w tm 1 0 K A S m U n T ll ln hs kf ld dt dc s)) := by
  refine zMet_of (ls := [some (.ref y)]) rfl (by decide +kernel) rfl (fun h => by cases h) hX (Nat.le_of_ble_eq_true rfl) rfl ?_
  obtain ⟨F, g, kp, sv, bf, ip, sg, td, h0, hf, h1, h2, h3, h4, h5, h6, h11, hWa, hC, hX9, hOt, gr, gS, gK, hm8, gU, hn60, hT, hll, hln⟩ := id hM
  obtain ⟨f4, f5, f6, f7, f8, f9, f10, f11, f13, f14, f16, f27⟩ := id hf
  have hA := gA.1
  obtain ⟨r0, r1, rc, rp⟩ := id gr
  obtain ⟨hC8, hP8, hW⟩ := id hA
  refine zr_aload_n dX10_undo_0 rfl ?_
  refine zr_aload_n dX10_undo_1 rfl ?_
  refine zr_getM (v := .int (F 5)) dX10_undo_2 fX10_68 h0 rfl ?_
  refine zr_eqi (x' := nI m) (f5) ?_
  refine zr_if_ne (tgt := 12) dX10_undo_5 (by decide) (fun c_5 => absurd (by rw [hm]; rfl) c_5) (fun c_5 => ?_)
  refine zr_iconst (v := 1) dX10_undo_8 (by decide) ?_
  refine zr_goto (tgt := 13) dX10_undo_9 (by decide) ?_
  refine zr_callVi [] dX10_undo_13 vX10_135 (qX10_fails hX (p := 1) h0) h0 (by decide) (by decide) (by decide) rfl rfl (Nat.le_of_ble_eq_true rfl) (by decide) rfl (fun kr1 s_kr1 h_kr1 => ?_)
  obtain ⟨e_kr1, F_kr1, g0_kr1⟩ := h_kr1
  have kh2 : s_kr1.1 (y + 1) = .inl (0, 82, .inl g) := zFr.get F_kr1 (by omega) h1
  have kh3 : s_kr1.1 (y + 2) = .inl (0, 656, .inl kp) := zFr.get F_kr1 (by omega) h2
  have kh4 : s_kr1.1 (y + 3) = .inl (0, 82, .inl sv) := zFr.get F_kr1 (by omega) h3
  have kh5 : s_kr1.1 (y + 4) = .inl (0, 82, .inl bf) := zFr.get F_kr1 (by omega) h4
  have kh6 : s_kr1.1 (y + 5) = .inl (0, 60, .inl ip) := zFr.get F_kr1 (by omega) h5
  have kh7 : s_kr1.1 (y + 6) = .inl (1, 400, .inl sg) := zFr.get F_kr1 (by omega) h6
  have kh8 : s_kr1.1 (y + 11) = .inl (0, 93, .inl td) := zFr.get F_kr1 (by omega) h11
  have kR9 : zWa y s_kr1 := zWa.fr hWa F_kr1 (by intro q h1 h2 h3; (try simp only [zIn, zJf] at h3); omega)
  have kR10 : zCy y s_kr1 := zCy.fr hC F_kr1 (by intro q h1 h2 h3; (try simp only [zIn, zJf] at h3); omega)
  have kR11 : zXa y s_kr1 := zXa.fr hX9 F_kr1 (by intro q h1 h2 h3; (try simp only [zIn, zJf] at h3); omega)
  have kR12 : zOa y s_kr1 := zOa.fr hOt F_kr1 (by intro q h1 h2 h3; (try simp only [zIn, zJf] at h3); omega)
  have kF13 := zFr.tr zFr.rf (P := zMq y) F_kr1 (by intro q hq; unfold zMq; omega)
  replace e_kr1 := e_kr1.trans (if_neg (by decide) : (_ : Int32) = 1)
  obtain rfl := e_kr1.symm
  refine zr_if_eq (tgt := 21) dX10_undo_16 (by decide) (fun c_16 => absurd c_16 (by decide)) (fun c_16 => ?_)
  refine zr_iconst (v := 0) dX10_undo_19 (by decide) ?_
  exact zr_ireturn dX10_undo_20 rfl (rfl) (⟨_, rfl, trivial, kF13, ⟨_, _, _, _, _, _, _, _, g0_kr1, ⟨f4, f5, f6, rfl, rfl, f9, f10, f11, f13, f14, f16, f27⟩, kh2, kh3, kh4, kh5, kh6, kh7, kh8, kR9, kR10, kR11, kR12, gr, gS, gK, hm8, gU, hn60, hT, hll, hln⟩⟩)

set_option maxHeartbeats 400000 in
set_option maxRecDepth 100000 in
theorem qX10_undoCount {X : zX} (hX : X.1.stackTraces = false) {σ : zS} {y : Nat} {w tm cd dn : Int32} {K : zDk} {A S : zDk} {m : Nat} {U : Nat → zDk} {n : Nat} {T : Nat → Int32} {ll : Nat} {ln : Nat → Int32} {hs kf ld dt dc : Int32} (hM : zMo y w tm cd dn K A S m U n T ll ln hs kf ld dt dc σ) (gA : zGd A)  : zMet X mX10_undoCount yX10_undoCount 0 0 0 [.ref y] σ (zI (fun y_ s => y_ = nI m ∧ zFr σ s (zMq y) ∧ zMo y w tm 0 dn K A S m U n T ll ln hs kf ld dt dc s)) := by
  refine zMet_of (ls := [some (.ref y)]) rfl (by decide +kernel) rfl (fun h => by cases h) hX (Nat.le_of_ble_eq_true rfl) rfl ?_
  obtain ⟨F, g, kp, sv, bf, ip, sg, td, h0, hf, h1, h2, h3, h4, h5, h6, h11, hWa, hC, hX9, hOt, gr, gS, gK, hm8, gU, hn60, hT, hll, hln⟩ := id hM
  obtain ⟨f4, f5, f6, f7, f8, f9, f10, f11, f13, f14, f16, f27⟩ := id hf
  have hA := gA.1
  obtain ⟨r0, r1, rc, rp⟩ := id gr
  obtain ⟨hC8, hP8, hW⟩ := id hA
  refine zr_aload_n dX10_undoCount_0 rfl ?_
  refine zr_iconst (v := 0) dX10_undoCount_1 (by decide) ?_
  refine zr_putM (v := 0) dX10_undoCount_2 pX10_49 h0 (rfl) (rfl) (Nat.le_of_ble_eq_true rfl) (zms_8 _ _ _) ?_
  refine zr_sig (fun ks1 e_ks1 => ?_)
  have kh2 : ks1.1 y = zmO y (upd F 8 0) := by rw [e_ks1]; exact zup_at _ _ _
  have kh3 : ks1.1 (y + 1) = .inl (0, 82, .inl g) := by rw [e_ks1, zup_ne _ _ (by omega)]; exact h1
  have kh4 : ks1.1 (y + 2) = .inl (0, 656, .inl kp) := by rw [e_ks1, zup_ne _ _ (by omega)]; exact h2
  have kh5 : ks1.1 (y + 3) = .inl (0, 82, .inl sv) := by rw [e_ks1, zup_ne _ _ (by omega)]; exact h3
  have kh6 : ks1.1 (y + 4) = .inl (0, 82, .inl bf) := by rw [e_ks1, zup_ne _ _ (by omega)]; exact h4
  have kh7 : ks1.1 (y + 5) = .inl (0, 60, .inl ip) := by rw [e_ks1, zup_ne _ _ (by omega)]; exact h5
  have kh8 : ks1.1 (y + 6) = .inl (1, 400, .inl sg) := by rw [e_ks1, zup_ne _ _ (by omega)]; exact h6
  have kh9 : ks1.1 (y + 11) = .inl (0, 93, .inl td) := by rw [e_ks1, zup_ne _ _ (by omega)]; exact h11
  have kF10 := zFr.put zFr.rf (P := zMq y) e_ks1 (by unfold zMq; omega)
  have kR11 : zWa y ks1 := zWa.fr hWa (zFr.put (P := fun q => q = y) zFr.rf e_ks1 rfl) (by intro q h1 h2 h3; (try simp only [zIn, zJf] at h3); omega)
  have kR12 : zCy y ks1 := zCy.fr hC (zFr.put (P := fun q => q = y) zFr.rf e_ks1 rfl) (by intro q h1 h2 h3; (try simp only [zIn, zJf] at h3); omega)
  have kR13 : zXa y ks1 := zXa.fr hX9 (zFr.put (P := fun q => q = y) zFr.rf e_ks1 rfl) (by intro q h1 h2 h3; (try simp only [zIn, zJf] at h3); omega)
  have kR14 : zOa y ks1 := zOa.fr hOt (zFr.put (P := fun q => q = y) zFr.rf e_ks1 rfl) (by intro q h1 h2 h3; (try simp only [zIn, zJf] at h3); omega)
  refine zr_aload_n dX10_undoCount_5 rfl ?_
  refine zr_getM (v := .int (F 5)) dX10_undoCount_6 fX10_68 kh2 rfl ?_
  refine zr_eqi (x' := nI m) (f5) ?_
  exact zr_ireturn dX10_undoCount_9 rfl (rfl) (⟨_, rfl, rfl, kF10, ⟨_, _, _, _, _, _, _, _, kh2, ⟨f4, f5, f6, f7, rfl, f9, f10, f11, f13, f14, f16, f27⟩, kh3, kh4, kh5, kh6, kh7, kh8, kh9, kR11, kR12, kR13, kR14, gr, gS, gK, hm8, gU, hn60, hT, hll, hln⟩⟩)

set_option maxHeartbeats 400000 in
set_option maxRecDepth 100000 in
theorem qX10_saveSnapshot {X : zX} (hX : X.1.stackTraces = false) {σ : zS} {y : Nat} {w tm cd dn : Int32} {K : zDk} {A S : zDk} {m : Nat} {U : Nat → zDk} {n : Nat} {T : Nat → Int32} {ll : Nat} {ln : Nat → Int32} {hs kf ld dt dc : Int32} (hM : zMo y w tm cd dn K A S m U n T ll ln hs kf ld dt dc σ) (gA : zGd A)  : zMet X mX10_saveSnapshot yX10_saveSnapshot 2 0 0 [.ref y] σ (zI (fun y_ s => y_ = nI (kC A) ∧ zFr σ s (zMq y) ∧ zMo y w tm 0 dn K A A m U n T ll ln 1 kf ld dt dc s)) := by
  refine zMet_of (ls := [some (.ref y)]) rfl (by decide +kernel) rfl (fun h => by cases h) hX (Nat.le_of_ble_eq_true rfl) rfl ?_
  obtain ⟨F, g, kp, sv, bf, ip, sg, td, h0, hf, h1, h2, h3, h4, h5, h6, h11, hWa, hC, hX9, hOt, gr, gS, gK, hm8, gU, hn60, hT, hll, hln⟩ := id hM
  obtain ⟨f4, f5, f6, f7, f8, f9, f10, f11, f13, f14, f16, f27⟩ := id hf
  have hA := gA.1
  obtain ⟨r0, r1, rc, rp⟩ := id gr
  obtain ⟨hC8, hP8, hW⟩ := id hA
  refine zr_aload_n dX10_saveSnapshot_0 rfl ?_
  refine zr_iconst (v := 0) dX10_saveSnapshot_1 (by decide) ?_
  refine zr_putM (v := 0) dX10_saveSnapshot_2 pX10_49 h0 (rfl) (rfl) (Nat.le_of_ble_eq_true rfl) (zms_8 _ _ _) ?_
  refine zr_sig (fun ks1 e_ks1 => ?_)
  have kh2 : ks1.1 y = zmO y (upd F 8 0) := by rw [e_ks1]; exact zup_at _ _ _
  have kh3 : ks1.1 (y + 1) = .inl (0, 82, .inl g) := by rw [e_ks1, zup_ne _ _ (by omega)]; exact h1
  have kh4 : ks1.1 (y + 2) = .inl (0, 656, .inl kp) := by rw [e_ks1, zup_ne _ _ (by omega)]; exact h2
  have kh5 : ks1.1 (y + 3) = .inl (0, 82, .inl sv) := by rw [e_ks1, zup_ne _ _ (by omega)]; exact h3
  have kh6 : ks1.1 (y + 4) = .inl (0, 82, .inl bf) := by rw [e_ks1, zup_ne _ _ (by omega)]; exact h4
  have kh7 : ks1.1 (y + 5) = .inl (0, 60, .inl ip) := by rw [e_ks1, zup_ne _ _ (by omega)]; exact h5
  have kh8 : ks1.1 (y + 6) = .inl (1, 400, .inl sg) := by rw [e_ks1, zup_ne _ _ (by omega)]; exact h6
  have kh9 : ks1.1 (y + 11) = .inl (0, 93, .inl td) := by rw [e_ks1, zup_ne _ _ (by omega)]; exact h11
  have kF10 := zFr.put zFr.rf (P := zMq y) e_ks1 (by unfold zMq; omega)
  have kR11 : zWa y ks1 := zWa.fr hWa (zFr.put (P := fun q => q = y) zFr.rf e_ks1 rfl) (by intro q h1 h2 h3; (try simp only [zIn, zJf] at h3); omega)
  have kR12 : zCy y ks1 := zCy.fr hC (zFr.put (P := fun q => q = y) zFr.rf e_ks1 rfl) (by intro q h1 h2 h3; (try simp only [zIn, zJf] at h3); omega)
  have kR13 : zXa y ks1 := zXa.fr hX9 (zFr.put (P := fun q => q = y) zFr.rf e_ks1 rfl) (by intro q h1 h2 h3; (try simp only [zIn, zJf] at h3); omega)
  have kR14 : zOa y ks1 := zOa.fr hOt (zFr.put (P := fun q => q = y) zFr.rf e_ks1 rfl) (by intro q h1 h2 h3; (try simp only [zIn, zJf] at h3); omega)
  refine zr_aload_n dX10_saveSnapshot_5 rfl ?_
  refine zr_iconst (v := 1) dX10_saveSnapshot_6 (by decide) ?_
  refine zr_putM (v := 1) dX10_saveSnapshot_7 pX10_314 kh2 (rfl) (rfl) (Nat.le_of_ble_eq_true rfl) (zms_4 _ _ _) ?_
  refine zr_sig (fun ks15 e_ks15 => ?_)
  have kh16 : ks15.1 y = zmO y (upd (upd F 4 1) 8 0) := by rw [e_ks15]; exact zup_at _ _ _
  have kh17 : ks15.1 (y + 1) = .inl (0, 82, .inl g) := by rw [e_ks15, zup_ne _ _ (by omega)]; exact kh3
  have kh18 : ks15.1 (y + 2) = .inl (0, 656, .inl kp) := by rw [e_ks15, zup_ne _ _ (by omega)]; exact kh4
  have kh19 : ks15.1 (y + 3) = .inl (0, 82, .inl sv) := by rw [e_ks15, zup_ne _ _ (by omega)]; exact kh5
  have kh20 : ks15.1 (y + 4) = .inl (0, 82, .inl bf) := by rw [e_ks15, zup_ne _ _ (by omega)]; exact kh6
  have kh21 : ks15.1 (y + 5) = .inl (0, 60, .inl ip) := by rw [e_ks15, zup_ne _ _ (by omega)]; exact kh7
  have kh22 : ks15.1 (y + 6) = .inl (1, 400, .inl sg) := by rw [e_ks15, zup_ne _ _ (by omega)]; exact kh8
  have kh23 : ks15.1 (y + 11) = .inl (0, 93, .inl td) := by rw [e_ks15, zup_ne _ _ (by omega)]; exact kh9
  have kF24 := zFr.put kF10 e_ks15 (by unfold zMq; omega)
  have kR25 : zWa y ks15 := zWa.fr kR11 (zFr.put (P := fun q => q = y) zFr.rf e_ks15 rfl) (by intro q h1 h2 h3; (try simp only [zIn, zJf] at h3); omega)
  have kR26 : zCy y ks15 := zCy.fr kR12 (zFr.put (P := fun q => q = y) zFr.rf e_ks15 rfl) (by intro q h1 h2 h3; (try simp only [zIn, zJf] at h3); omega)
  have kR27 : zXa y ks15 := zXa.fr kR13 (zFr.put (P := fun q => q = y) zFr.rf e_ks15 rfl) (by intro q h1 h2 h3; (try simp only [zIn, zJf] at h3); omega)
  have kR28 : zOa y ks15 := zOa.fr kR14 (zFr.put (P := fun q => q = y) zFr.rf e_ks15 rfl) (by intro q h1 h2 h3; (try simp only [zIn, zJf] at h3); omega)
  refine zr_aload_n dX10_saveSnapshot_10 rfl ?_
  refine zr_getM (v := .ref (y + 1)) dX10_saveSnapshot_11 fX10_7 kh16 rfl ?_
  refine zr_iconst (v := 0) dX10_saveSnapshot_14 (by decide) ?_
  refine zr_aload_n dX10_saveSnapshot_15 rfl ?_
  refine zr_getM (v := .ref (y + 3)) dX10_saveSnapshot_16 fX10_16 kh16 rfl ?_
  refine zr_iconst (v := 0) dX10_saveSnapshot_19 (by decide) ?_
  refine zr_callSv [] dX10_saveSnapshot_20 vX10_71 (qX10_copies hX (p := 0) (q := 0) kh17 (by omega) (by omega) (by omega) (by omega) (by omega) kh19) (by decide) (by decide) (by decide) rfl rfl (Nat.le_of_ble_eq_true rfl) rfl (fun s_kr29 h_kr29 => ?_)
  obtain ⟨F_kr29, g0_kr29⟩ := h_kr29
  have kh30 : s_kr29.1 y = zmO y (upd (upd F 4 1) 8 0) := zFr.get F_kr29 (by omega) kh16
  have kh31 : s_kr29.1 (y + 1) = .inl (0, 82, .inl g) := zFr.get F_kr29 (by omega) kh17
  have kh32 : s_kr29.1 (y + 2) = .inl (0, 656, .inl kp) := zFr.get F_kr29 (by omega) kh18
  have kh33 : s_kr29.1 (y + 4) = .inl (0, 82, .inl bf) := zFr.get F_kr29 (by omega) kh20
  have kh34 : s_kr29.1 (y + 5) = .inl (0, 60, .inl ip) := zFr.get F_kr29 (by omega) kh21
  have kh35 : s_kr29.1 (y + 6) = .inl (1, 400, .inl sg) := zFr.get F_kr29 (by omega) kh22
  have kh36 : s_kr29.1 (y + 11) = .inl (0, 93, .inl td) := zFr.get F_kr29 (by omega) kh23
  have kR37 : zWa y s_kr29 := zWa.fr kR25 F_kr29 (by intro q h1 h2 h3; (try simp only [zIn, zJf] at h3); omega)
  have kR38 : zCy y s_kr29 := zCy.fr kR26 F_kr29 (by intro q h1 h2 h3; (try simp only [zIn, zJf] at h3); omega)
  have kR39 : zXa y s_kr29 := zXa.fr kR27 F_kr29 (by intro q h1 h2 h3; (try simp only [zIn, zJf] at h3); omega)
  have kR40 : zOa y s_kr29 := zOa.fr kR28 F_kr29 (by intro q h1 h2 h3; (try simp only [zIn, zJf] at h3); omega)
  have kF41 := zFr.tr kF24 F_kr29 (by intro q hq; unfold zMq; omega)
  refine zr_aload_n dX10_saveSnapshot_23 rfl ?_
  refine zr_getM (v := .ref (y + 1)) dX10_saveSnapshot_24 fX10_7 kh30 rfl ?_
  refine zr_iconst (v := 0) dX10_saveSnapshot_27 (by decide) ?_
  refine zr_iaload dX10_saveSnapshot_28 kh31 (vp_in_nI (n := 0) (by omega) (by omega)) ?_
  rw [show (0 : Int32).toNatClampNeg = 0 from by decide]
  refine zr_eqi (x' := nI (kC A)) (r0) ?_
  exact zr_ireturn dX10_saveSnapshot_29 rfl (rfl) (⟨_, rfl, rfl, kF41, ⟨_, _, _, _, _, _, _, _, kh30, ⟨rfl, f5, f6, f7, rfl, f9, f10, f11, f13, f14, f16, f27⟩, kh31, kh32, g0_kr29, kh33, kh34, kh35, kh36, kR37, kR38, kR39, kR40, gr, (zGr.cpn gr hA (fun k hk => by rw [Nat.zero_add])), gK, hm8, gU, hn60, hT, hll, hln⟩⟩)

set_option maxHeartbeats 400000 in
set_option maxRecDepth 100000 in
theorem qX10_restoreSnapshot {X : zX} (hX : X.1.stackTraces = false) {σ : zS} {y : Nat} {w tm cd dn : Int32} {K : zDk} {A S : zDk} {m : Nat} {U : Nat → zDk} {n : Nat} {T : Nat → Int32} {ll : Nat} {ln : Nat → Int32} {hs kf ld dt dc : Int32} (hM : zMo y w tm cd dn K A S m U n T ll ln hs kf ld dt dc σ) (gA : zGd A) (hz : ¬ hs = 0) (hSw : zDw S) : zMet X mX10_restoreSnapshot yX10_restoreSnapshot 2 0 0 [.ref y] σ (zI (fun y_ s => y_ = nI (kC S) ∧ zFr σ s (zMq y) ∧ zMo y w tm 0 0 K S S 0 U n T ll ln hs kf ld dt dc s)) := by
  refine zMet_of (ls := [some (.ref y)]) rfl (by decide +kernel) rfl (fun h => by cases h) hX (Nat.le_of_ble_eq_true rfl) rfl ?_
  obtain ⟨F, g, kp, sv, bf, ip, sg, td, h0, hf, h1, h2, h3, h4, h5, h6, h11, hWa, hC, hX9, hOt, gr, gS, gK, hm8, gU, hn60, hT, hll, hln⟩ := id hM
  obtain ⟨f4, f5, f6, f7, f8, f9, f10, f11, f13, f14, f16, f27⟩ := id hf
  have hA := gA.1
  obtain ⟨r0, r1, rc, rp⟩ := id gr
  obtain ⟨hC8, hP8, hW⟩ := id hA
  refine zr_aload_n dX10_restoreSnapshot_0 rfl ?_
  refine zr_aload_n dX10_restoreSnapshot_1 rfl ?_
  refine zr_getM (v := .int (F 4)) dX10_restoreSnapshot_2 fX10_314 h0 rfl ?_
  refine zr_eqi (x' := hs) (f4) ?_
  refine zr_if_eq (tgt := 12) dX10_restoreSnapshot_5 (by decide) (fun c_5 => absurd c_5 (hz)) (fun c_5 => ?_)
  refine zr_iconst (v := 0) dX10_restoreSnapshot_8 (by decide) ?_
  refine zr_goto (tgt := 13) dX10_restoreSnapshot_9 (by decide) ?_
  refine zr_callVi [] dX10_restoreSnapshot_13 vX10_135 (qX10_fails hX (p := 0) h0) h0 (by decide) (by decide) (by decide) rfl rfl (Nat.le_of_ble_eq_true rfl) (by decide) rfl (fun kr1 s_kr1 h_kr1 => ?_)
  obtain ⟨e_kr1, F_kr1, g0_kr1⟩ := h_kr1
  have kh2 : s_kr1.1 (y + 1) = .inl (0, 82, .inl g) := zFr.get F_kr1 (by omega) h1
  have kh3 : s_kr1.1 (y + 2) = .inl (0, 656, .inl kp) := zFr.get F_kr1 (by omega) h2
  have kh4 : s_kr1.1 (y + 3) = .inl (0, 82, .inl sv) := zFr.get F_kr1 (by omega) h3
  have kh5 : s_kr1.1 (y + 4) = .inl (0, 82, .inl bf) := zFr.get F_kr1 (by omega) h4
  have kh6 : s_kr1.1 (y + 5) = .inl (0, 60, .inl ip) := zFr.get F_kr1 (by omega) h5
  have kh7 : s_kr1.1 (y + 6) = .inl (1, 400, .inl sg) := zFr.get F_kr1 (by omega) h6
  have kh8 : s_kr1.1 (y + 11) = .inl (0, 93, .inl td) := zFr.get F_kr1 (by omega) h11
  have kR9 : zWa y s_kr1 := zWa.fr hWa F_kr1 (by intro q h1 h2 h3; (try simp only [zIn, zJf] at h3); omega)
  have kR10 : zCy y s_kr1 := zCy.fr hC F_kr1 (by intro q h1 h2 h3; (try simp only [zIn, zJf] at h3); omega)
  have kR11 : zXa y s_kr1 := zXa.fr hX9 F_kr1 (by intro q h1 h2 h3; (try simp only [zIn, zJf] at h3); omega)
  have kR12 : zOa y s_kr1 := zOa.fr hOt F_kr1 (by intro q h1 h2 h3; (try simp only [zIn, zJf] at h3); omega)
  have kF13 := zFr.tr zFr.rf (P := zMq y) F_kr1 (by intro q hq; unfold zMq; omega)
  replace e_kr1 := e_kr1.trans (if_pos (by decide) : (_ : Int32) = 0)
  obtain rfl := e_kr1.symm
  refine zr_if_eq (tgt := 21) dX10_restoreSnapshot_16 (by decide) (fun c_16 => ?_) (fun c_16 => absurd (by decide) c_16)
  refine zr_aload_n dX10_restoreSnapshot_21 rfl ?_
  refine zr_getM (v := .ref (y + 3)) dX10_restoreSnapshot_22 fX10_16 g0_kr1 rfl ?_
  refine zr_iconst (v := 0) dX10_restoreSnapshot_25 (by decide) ?_
  refine zr_aload_n dX10_restoreSnapshot_26 rfl ?_
  refine zr_getM (v := .ref (y + 1)) dX10_restoreSnapshot_27 fX10_7 g0_kr1 rfl ?_
  refine zr_iconst (v := 0) dX10_restoreSnapshot_30 (by decide) ?_
  refine zr_callSv [] dX10_restoreSnapshot_31 vX10_71 (qX10_copies hX (p := 0) (q := 0) kh4 (by omega) (by omega) (by omega) (by omega) (by omega) kh2) (by decide) (by decide) (by decide) rfl rfl (Nat.le_of_ble_eq_true rfl) rfl (fun s_kr14 h_kr14 => ?_)
  obtain ⟨F_kr14, g0_kr14⟩ := h_kr14
  have kh15 : s_kr14.1 y = zmO y (upd (upd F 7 0) 8 0) := zFr.get F_kr14 (by omega) g0_kr1
  have kh16 : s_kr14.1 (y + 2) = .inl (0, 656, .inl kp) := zFr.get F_kr14 (by omega) kh3
  have kh17 : s_kr14.1 (y + 3) = .inl (0, 82, .inl sv) := zFr.get F_kr14 (by omega) kh4
  have kh18 : s_kr14.1 (y + 4) = .inl (0, 82, .inl bf) := zFr.get F_kr14 (by omega) kh5
  have kh19 : s_kr14.1 (y + 5) = .inl (0, 60, .inl ip) := zFr.get F_kr14 (by omega) kh6
  have kh20 : s_kr14.1 (y + 6) = .inl (1, 400, .inl sg) := zFr.get F_kr14 (by omega) kh7
  have kh21 : s_kr14.1 (y + 11) = .inl (0, 93, .inl td) := zFr.get F_kr14 (by omega) kh8
  have kR22 : zWa y s_kr14 := zWa.fr kR9 F_kr14 (by intro q h1 h2 h3; (try simp only [zIn, zJf] at h3); omega)
  have kR23 : zCy y s_kr14 := zCy.fr kR10 F_kr14 (by intro q h1 h2 h3; (try simp only [zIn, zJf] at h3); omega)
  have kR24 : zXa y s_kr14 := zXa.fr kR11 F_kr14 (by intro q h1 h2 h3; (try simp only [zIn, zJf] at h3); omega)
  have kR25 : zOa y s_kr14 := zOa.fr kR12 F_kr14 (by intro q h1 h2 h3; (try simp only [zIn, zJf] at h3); omega)
  have kF26 := zFr.tr kF13 F_kr14 (by intro q hq; unfold zMq; omega)
  refine zr_aload_n dX10_restoreSnapshot_34 rfl ?_
  refine zr_iconst (v := 0) dX10_restoreSnapshot_35 (by decide) ?_
  refine zr_putM (v := 0) dX10_restoreSnapshot_36 pX10_68 kh15 (rfl) (rfl) (Nat.le_of_ble_eq_true rfl) (zms_5 _ _ _) ?_
  refine zr_sig (fun ks27 e_ks27 => ?_)
  have kh28 : ks27.1 y = zmO y (upd (upd (upd F 5 0) 7 0) 8 0) := by rw [e_ks27]; exact zup_at _ _ _
  have kh29 : ks27.1 (y + 1) = .inl (0, 82, .inl (zcpn sv g 0 0 82)) := by rw [e_ks27, zup_ne _ _ (by omega)]; exact g0_kr14
  have kh30 : ks27.1 (y + 2) = .inl (0, 656, .inl kp) := by rw [e_ks27, zup_ne _ _ (by omega)]; exact kh16
  have kh31 : ks27.1 (y + 3) = .inl (0, 82, .inl sv) := by rw [e_ks27, zup_ne _ _ (by omega)]; exact kh17
  have kh32 : ks27.1 (y + 4) = .inl (0, 82, .inl bf) := by rw [e_ks27, zup_ne _ _ (by omega)]; exact kh18
  have kh33 : ks27.1 (y + 5) = .inl (0, 60, .inl ip) := by rw [e_ks27, zup_ne _ _ (by omega)]; exact kh19
  have kh34 : ks27.1 (y + 6) = .inl (1, 400, .inl sg) := by rw [e_ks27, zup_ne _ _ (by omega)]; exact kh20
  have kh35 : ks27.1 (y + 11) = .inl (0, 93, .inl td) := by rw [e_ks27, zup_ne _ _ (by omega)]; exact kh21
  have kF36 := zFr.put kF26 e_ks27 (by unfold zMq; omega)
  have kR37 : zWa y ks27 := zWa.fr kR22 (zFr.put (P := fun q => q = y) zFr.rf e_ks27 rfl) (by intro q h1 h2 h3; (try simp only [zIn, zJf] at h3); omega)
  have kR38 : zCy y ks27 := zCy.fr kR23 (zFr.put (P := fun q => q = y) zFr.rf e_ks27 rfl) (by intro q h1 h2 h3; (try simp only [zIn, zJf] at h3); omega)
  have kR39 : zXa y ks27 := zXa.fr kR24 (zFr.put (P := fun q => q = y) zFr.rf e_ks27 rfl) (by intro q h1 h2 h3; (try simp only [zIn, zJf] at h3); omega)
  have kR40 : zOa y ks27 := zOa.fr kR25 (zFr.put (P := fun q => q = y) zFr.rf e_ks27 rfl) (by intro q h1 h2 h3; (try simp only [zIn, zJf] at h3); omega)
  refine zr_aload_n dX10_restoreSnapshot_39 rfl ?_
  refine zr_getM (v := .ref (y + 1)) dX10_restoreSnapshot_40 fX10_7 kh28 rfl ?_
  refine zr_iconst (v := 0) dX10_restoreSnapshot_43 (by decide) ?_
  refine zr_iaload dX10_restoreSnapshot_44 kh29 (vp_in_nI (n := 0) (by omega) (by omega)) ?_
  rw [show (0 : Int32).toNatClampNeg = 0 from by decide]
  refine zr_eqi (x' := nI (kC S)) ((zGr.cpn gS hSw (fun k hk => by rw [Nat.zero_add])).1) ?_
  exact zr_ireturn dX10_restoreSnapshot_45 rfl (rfl) (⟨_, rfl, rfl, kF36, ⟨_, _, _, _, _, _, _, _, kh28, ⟨f4, rfl, f6, rfl, rfl, f9, f10, f11, f13, f14, f16, f27⟩, kh29, kh30, kh31, kh32, kh33, kh34, kh35, kR37, kR38, kR39, kR40, (zGr.cpn gS hSw (fun k hk => by rw [Nat.zero_add])), gS, gK, (by omega), (fun t ht => absurd ht (by omega)), hn60, hT, hll, hln⟩⟩)

set_option maxHeartbeats 400000 in
set_option maxRecDepth 100000 in
theorem qX10_restoreSnapshotN {X : zX} (hX : X.1.stackTraces = false) {σ : zS} {y : Nat} {w tm cd dn : Int32} {K : zDk} {A S : zDk} {m : Nat} {U : Nat → zDk} {n : Nat} {T : Nat → Int32} {ll : Nat} {ln : Nat → Int32} {hs kf ld dt dc : Int32} (hM : zMo y w tm cd dn K A S m U n T ll ln hs kf ld dt dc σ) (gA : zGd A) (hz : hs = 0) : zMet X mX10_restoreSnapshot yX10_restoreSnapshot 2 0 0 [.ref y] σ (zI (fun y_ s => True ∧ zFr σ s (zMq y) ∧ zMo y w tm 1 0 K A S m U n T ll ln hs kf ld dt dc s)) := by
  refine zMet_of (ls := [some (.ref y)]) rfl (by decide +kernel) rfl (fun h => by cases h) hX (Nat.le_of_ble_eq_true rfl) rfl ?_
  obtain ⟨F, g, kp, sv, bf, ip, sg, td, h0, hf, h1, h2, h3, h4, h5, h6, h11, hWa, hC, hX9, hOt, gr, gS, gK, hm8, gU, hn60, hT, hll, hln⟩ := id hM
  obtain ⟨f4, f5, f6, f7, f8, f9, f10, f11, f13, f14, f16, f27⟩ := id hf
  have hA := gA.1
  obtain ⟨r0, r1, rc, rp⟩ := id gr
  obtain ⟨hC8, hP8, hW⟩ := id hA
  refine zr_aload_n dX10_restoreSnapshot_0 rfl ?_
  refine zr_aload_n dX10_restoreSnapshot_1 rfl ?_
  refine zr_getM (v := .int (F 4)) dX10_restoreSnapshot_2 fX10_314 h0 rfl ?_
  refine zr_eqi (x' := hs) (f4) ?_
  refine zr_if_eq (tgt := 12) dX10_restoreSnapshot_5 (by decide) (fun c_5 => ?_) (fun c_5 => absurd (hz) c_5)
  refine zr_iconst (v := 1) dX10_restoreSnapshot_12 (by decide) ?_
  refine zr_callVi [] dX10_restoreSnapshot_13 vX10_135 (qX10_fails hX (p := 1) h0) h0 (by decide) (by decide) (by decide) rfl rfl (Nat.le_of_ble_eq_true rfl) (by decide) rfl (fun kr1 s_kr1 h_kr1 => ?_)
  obtain ⟨e_kr1, F_kr1, g0_kr1⟩ := h_kr1
  have kh2 : s_kr1.1 (y + 1) = .inl (0, 82, .inl g) := zFr.get F_kr1 (by omega) h1
  have kh3 : s_kr1.1 (y + 2) = .inl (0, 656, .inl kp) := zFr.get F_kr1 (by omega) h2
  have kh4 : s_kr1.1 (y + 3) = .inl (0, 82, .inl sv) := zFr.get F_kr1 (by omega) h3
  have kh5 : s_kr1.1 (y + 4) = .inl (0, 82, .inl bf) := zFr.get F_kr1 (by omega) h4
  have kh6 : s_kr1.1 (y + 5) = .inl (0, 60, .inl ip) := zFr.get F_kr1 (by omega) h5
  have kh7 : s_kr1.1 (y + 6) = .inl (1, 400, .inl sg) := zFr.get F_kr1 (by omega) h6
  have kh8 : s_kr1.1 (y + 11) = .inl (0, 93, .inl td) := zFr.get F_kr1 (by omega) h11
  have kR9 : zWa y s_kr1 := zWa.fr hWa F_kr1 (by intro q h1 h2 h3; (try simp only [zIn, zJf] at h3); omega)
  have kR10 : zCy y s_kr1 := zCy.fr hC F_kr1 (by intro q h1 h2 h3; (try simp only [zIn, zJf] at h3); omega)
  have kR11 : zXa y s_kr1 := zXa.fr hX9 F_kr1 (by intro q h1 h2 h3; (try simp only [zIn, zJf] at h3); omega)
  have kR12 : zOa y s_kr1 := zOa.fr hOt F_kr1 (by intro q h1 h2 h3; (try simp only [zIn, zJf] at h3); omega)
  have kF13 := zFr.tr zFr.rf (P := zMq y) F_kr1 (by intro q hq; unfold zMq; omega)
  replace e_kr1 := e_kr1.trans (if_neg (by decide) : (_ : Int32) = 1)
  obtain rfl := e_kr1.symm
  refine zr_if_eq (tgt := 21) dX10_restoreSnapshot_16 (by decide) (fun c_16 => absurd c_16 (by decide)) (fun c_16 => ?_)
  refine zr_iconst (v := 0) dX10_restoreSnapshot_19 (by decide) ?_
  exact zr_ireturn dX10_restoreSnapshot_20 rfl (rfl) (⟨_, rfl, trivial, kF13, ⟨_, _, _, _, _, _, _, _, g0_kr1, ⟨f4, f5, f6, rfl, rfl, f9, f10, f11, f13, f14, f16, f27⟩, kh2, kh3, kh4, kh5, kh6, kh7, kh8, kR9, kR10, kR11, kR12, gr, gS, gK, hm8, gU, hn60, hT, hll, hln⟩⟩)

theorem zOb_0n {A : zDk} (hC : kC A ≤ 8) (h : ¬ zOb A 0 0 = 0) : kC A = 8 ∧ zOb A 0 0 = 1 := by
  have : ¬ kC A < 8 := fun q => h (by unfold zOb; rw [if_pos rfl, if_pos q])
  exact ⟨by omega, by unfold zOb; rw [if_pos rfl, if_neg this]⟩
theorem kR_at {A : zDk} (gA : zGd A) {i : Nat} (hi : i < kC A) (h : ¬ kR A i = -1) : ∃ p, p < kP A ∧ kR A i = nI p := by
  rcases gA.2.1 i hi with e | ⟨q, q8, e, -⟩
  · exact absurd e h
  · exact ⟨q, q8, e⟩
set_option maxHeartbeats 400000 in
set_option maxRecDepth 100000 in
theorem qX10_relaxE2 {X : zX} (hX : X.1.stackTraces = false) {σ : zS} {y : Nat} {w tm cd dn : Int32} {K : zDk} {A S : zDk} {m : Nat} {U : Nat → zDk} {n : Nat} {T : Nat → Int32} {ll : Nat} {ln : Nat → Int32} {hs kf ld dt dc : Int32} {i : Nat} (hM : zMo y w tm cd dn K A S m U n T ll ln hs kf ld dt dc σ) (gA : zGd A) (hi : i < kC A) (hr : ¬ kR A i = -1) : zMet X mX10_relax yX10_relax 5 0 0 [.ref y, .int (nI i)] σ (zI (fun y_ s => True ∧ zFr σ s (zMq y) ∧ zMo y w tm 2 1 K A S m U n T ll ln hs kf 2 (kR A i) 0 s)) := by
  refine zMet_of (ls := [some (.ref y), some (.int (nI i)), none]) rfl (by decide +kernel) rfl (fun h => by cases h) hX (Nat.le_of_ble_eq_true rfl) rfl ?_
  obtain ⟨F, g, kp, sv, bf, ip, sg, td, h0, hf, h1, h2, h3, h4, h5, h6, h11, hWa, hC, hX9, hOt, gr, gS, gK, hm8, gU, hn60, hT, hll, hln⟩ := id hM
  obtain ⟨f4, f5, f6, f7, f8, f9, f10, f11, f13, f14, f16, f27⟩ := id hf
  have hA := gA.1
  obtain ⟨r0, r1, rc, rp⟩ := id gr
  obtain ⟨hC8, hP8, hW⟩ := id hA
  refine zr_aload_n dX10_relax_0 rfl ?_
  refine zr_iload_n dX10_relax_1 rfl ?_
  refine zr_callVi [] dX10_relax_2 vX10_155 (qX10_isNone hX (i := i) h0 h1 r0 (by omega) hi) h0 (by decide) (by decide) (by decide) rfl rfl (Nat.le_of_ble_eq_true rfl) (by decide) rfl (fun kr1 s_kr1 h_kr1 => ?_)
  obtain ⟨e_kr1, F_kr1, g0_kr1⟩ := h_kr1
  have kh2 : s_kr1.1 (y + 1) = .inl (0, 82, .inl g) := zFr.get F_kr1 (by omega) h1
  have kh3 : s_kr1.1 (y + 2) = .inl (0, 656, .inl kp) := zFr.get F_kr1 (by omega) h2
  have kh4 : s_kr1.1 (y + 3) = .inl (0, 82, .inl sv) := zFr.get F_kr1 (by omega) h3
  have kh5 : s_kr1.1 (y + 4) = .inl (0, 82, .inl bf) := zFr.get F_kr1 (by omega) h4
  have kh6 : s_kr1.1 (y + 5) = .inl (0, 60, .inl ip) := zFr.get F_kr1 (by omega) h5
  have kh7 : s_kr1.1 (y + 6) = .inl (1, 400, .inl sg) := zFr.get F_kr1 (by omega) h6
  have kh8 : s_kr1.1 (y + 11) = .inl (0, 93, .inl td) := zFr.get F_kr1 (by omega) h11
  have kR9 : zWa y s_kr1 := zWa.fr hWa F_kr1 (by intro q h1 h2 h3; (try simp only [zIn, zJf] at h3); omega)
  have kR10 : zCy y s_kr1 := zCy.fr hC F_kr1 (by intro q h1 h2 h3; (try simp only [zIn, zJf] at h3); omega)
  have kR11 : zXa y s_kr1 := zXa.fr hX9 F_kr1 (by intro q h1 h2 h3; (try simp only [zIn, zJf] at h3); omega)
  have kR12 : zOa y s_kr1 := zOa.fr hOt F_kr1 (by intro q h1 h2 h3; (try simp only [zIn, zJf] at h3); omega)
  have kF13 := zFr.tr zFr.rf (P := zMq y) F_kr1 (by intro q hq; unfold zMq; omega)
  obtain rfl := e_kr1.symm
  refine zr_if_ne (tgt := 16) dX10_relax_5 (by decide) (fun c_5 => absurd (by decide) c_5) (fun c_5 => ?_)
  refine zr_aload_n dX10_relax_8 rfl ?_
  refine zr_iload_n dX10_relax_9 rfl ?_
  refine zr_callVi [] dX10_relax_10 vX10_158 (qX10_isClosedX hX (i := i) g0_kr1 kh2 gr hA hi hr) g0_kr1 (by decide) (by decide) (by decide) rfl rfl (Nat.le_of_ble_eq_true rfl) (by decide) rfl (fun kr14 s_kr14 h_kr14 => ?_)
  obtain ⟨e_kr14, F_kr14, g0_kr14⟩ := h_kr14
  have kh15 : s_kr14.1 (y + 1) = .inl (0, 82, .inl g) := zFr.get F_kr14 (by omega) kh2
  have kh16 : s_kr14.1 (y + 2) = .inl (0, 656, .inl kp) := zFr.get F_kr14 (by omega) kh3
  have kh17 : s_kr14.1 (y + 3) = .inl (0, 82, .inl sv) := zFr.get F_kr14 (by omega) kh4
  have kh18 : s_kr14.1 (y + 4) = .inl (0, 82, .inl bf) := zFr.get F_kr14 (by omega) kh5
  have kh19 : s_kr14.1 (y + 5) = .inl (0, 60, .inl ip) := zFr.get F_kr14 (by omega) kh6
  have kh20 : s_kr14.1 (y + 6) = .inl (1, 400, .inl sg) := zFr.get F_kr14 (by omega) kh7
  have kh21 : s_kr14.1 (y + 11) = .inl (0, 93, .inl td) := zFr.get F_kr14 (by omega) kh8
  have kR22 : zWa y s_kr14 := zWa.fr kR9 F_kr14 (by intro q h1 h2 h3; (try simp only [zIn, zJf] at h3); omega)
  have kR23 : zCy y s_kr14 := zCy.fr kR10 F_kr14 (by intro q h1 h2 h3; (try simp only [zIn, zJf] at h3); omega)
  have kR24 : zXa y s_kr14 := zXa.fr kR11 F_kr14 (by intro q h1 h2 h3; (try simp only [zIn, zJf] at h3); omega)
  have kR25 : zOa y s_kr14 := zOa.fr kR12 F_kr14 (by intro q h1 h2 h3; (try simp only [zIn, zJf] at h3); omega)
  have kF26 := zFr.tr kF13 F_kr14 (by intro q hq; unfold zMq; omega)
  obtain rfl := e_kr14.symm
  refine zr_if_eq (tgt := 18) dX10_relax_13 (by decide) (fun c_13 => absurd c_13 (by decide)) (fun c_13 => ?_)
  refine zr_iconst (v := 0) dX10_relax_16 (by decide) ?_
  exact zr_ireturn dX10_relax_17 rfl (rfl) (⟨_, rfl, trivial, kF26, ⟨_, _, _, _, _, _, _, _, g0_kr14, ⟨f4, f5, f6, rfl, rfl, rfl, rfl, rfl, f13, f14, f16, f27⟩, kh15, kh16, kh17, kh18, kh19, kh20, kh21, kR22, kR23, kR24, kR25, gr, gS, gK, hm8, gU, hn60, hT, hll, hln⟩⟩)

set_option maxHeartbeats 400000 in
set_option maxRecDepth 100000 in
theorem qX10_decideE2 {X : zX} (hX : X.1.stackTraces = false) {σ : zS} {y : Nat} {w tm cd dn : Int32} {K : zDk} {A S : zDk} {m : Nat} {U : Nat → zDk} {n : Nat} {T : Nat → Int32} {ll : Nat} {ln : Nat → Int32} {hs kf ld dt dc : Int32} {i : Nat} (hM : zMo y w tm cd dn K A S m U n T ll ln hs kf ld dt dc σ) (gA : zGd A) (hi : i < kC A) (hr : ¬ kR A i = -1) : zMet X mX10_decide yX10_decide 5 0 0 [.ref y, .int (nI i)] σ (zI (fun y_ s => True ∧ zFr σ s (zMq y) ∧ zMo y w tm 2 1 K A S m U n T ll ln hs kf 2 (kR A i) 0 s)) := by
  refine zMet_of (ls := [some (.ref y), some (.int (nI i)), none]) rfl (by decide +kernel) rfl (fun h => by cases h) hX (Nat.le_of_ble_eq_true rfl) rfl ?_
  obtain ⟨F, g, kp, sv, bf, ip, sg, td, h0, hf, h1, h2, h3, h4, h5, h6, h11, hWa, hC, hX9, hOt, gr, gS, gK, hm8, gU, hn60, hT, hll, hln⟩ := id hM
  obtain ⟨f4, f5, f6, f7, f8, f9, f10, f11, f13, f14, f16, f27⟩ := id hf
  have hA := gA.1
  obtain ⟨r0, r1, rc, rp⟩ := id gr
  obtain ⟨hC8, hP8, hW⟩ := id hA
  refine zr_aload_n dX10_decide_0 rfl ?_
  refine zr_iload_n dX10_decide_1 rfl ?_
  refine zr_callVi [] dX10_decide_2 vX10_155 (qX10_isNone hX (i := i) h0 h1 r0 (by omega) hi) h0 (by decide) (by decide) (by decide) rfl rfl (Nat.le_of_ble_eq_true rfl) (by decide) rfl (fun kr1 s_kr1 h_kr1 => ?_)
  obtain ⟨e_kr1, F_kr1, g0_kr1⟩ := h_kr1
  have kh2 : s_kr1.1 (y + 1) = .inl (0, 82, .inl g) := zFr.get F_kr1 (by omega) h1
  have kh3 : s_kr1.1 (y + 2) = .inl (0, 656, .inl kp) := zFr.get F_kr1 (by omega) h2
  have kh4 : s_kr1.1 (y + 3) = .inl (0, 82, .inl sv) := zFr.get F_kr1 (by omega) h3
  have kh5 : s_kr1.1 (y + 4) = .inl (0, 82, .inl bf) := zFr.get F_kr1 (by omega) h4
  have kh6 : s_kr1.1 (y + 5) = .inl (0, 60, .inl ip) := zFr.get F_kr1 (by omega) h5
  have kh7 : s_kr1.1 (y + 6) = .inl (1, 400, .inl sg) := zFr.get F_kr1 (by omega) h6
  have kh8 : s_kr1.1 (y + 11) = .inl (0, 93, .inl td) := zFr.get F_kr1 (by omega) h11
  have kR9 : zWa y s_kr1 := zWa.fr hWa F_kr1 (by intro q h1 h2 h3; (try simp only [zIn, zJf] at h3); omega)
  have kR10 : zCy y s_kr1 := zCy.fr hC F_kr1 (by intro q h1 h2 h3; (try simp only [zIn, zJf] at h3); omega)
  have kR11 : zXa y s_kr1 := zXa.fr hX9 F_kr1 (by intro q h1 h2 h3; (try simp only [zIn, zJf] at h3); omega)
  have kR12 : zOa y s_kr1 := zOa.fr hOt F_kr1 (by intro q h1 h2 h3; (try simp only [zIn, zJf] at h3); omega)
  have kF13 := zFr.tr zFr.rf (P := zMq y) F_kr1 (by intro q hq; unfold zMq; omega)
  obtain rfl := e_kr1.symm
  refine zr_if_ne (tgt := 16) dX10_decide_5 (by decide) (fun c_5 => absurd (by decide) c_5) (fun c_5 => ?_)
  refine zr_aload_n dX10_decide_8 rfl ?_
  refine zr_iload_n dX10_decide_9 rfl ?_
  refine zr_callVi [] dX10_decide_10 vX10_158 (qX10_isClosedX hX (i := i) g0_kr1 kh2 gr hA hi hr) g0_kr1 (by decide) (by decide) (by decide) rfl rfl (Nat.le_of_ble_eq_true rfl) (by decide) rfl (fun kr14 s_kr14 h_kr14 => ?_)
  obtain ⟨e_kr14, F_kr14, g0_kr14⟩ := h_kr14
  have kh15 : s_kr14.1 (y + 1) = .inl (0, 82, .inl g) := zFr.get F_kr14 (by omega) kh2
  have kh16 : s_kr14.1 (y + 2) = .inl (0, 656, .inl kp) := zFr.get F_kr14 (by omega) kh3
  have kh17 : s_kr14.1 (y + 3) = .inl (0, 82, .inl sv) := zFr.get F_kr14 (by omega) kh4
  have kh18 : s_kr14.1 (y + 4) = .inl (0, 82, .inl bf) := zFr.get F_kr14 (by omega) kh5
  have kh19 : s_kr14.1 (y + 5) = .inl (0, 60, .inl ip) := zFr.get F_kr14 (by omega) kh6
  have kh20 : s_kr14.1 (y + 6) = .inl (1, 400, .inl sg) := zFr.get F_kr14 (by omega) kh7
  have kh21 : s_kr14.1 (y + 11) = .inl (0, 93, .inl td) := zFr.get F_kr14 (by omega) kh8
  have kR22 : zWa y s_kr14 := zWa.fr kR9 F_kr14 (by intro q h1 h2 h3; (try simp only [zIn, zJf] at h3); omega)
  have kR23 : zCy y s_kr14 := zCy.fr kR10 F_kr14 (by intro q h1 h2 h3; (try simp only [zIn, zJf] at h3); omega)
  have kR24 : zXa y s_kr14 := zXa.fr kR11 F_kr14 (by intro q h1 h2 h3; (try simp only [zIn, zJf] at h3); omega)
  have kR25 : zOa y s_kr14 := zOa.fr kR12 F_kr14 (by intro q h1 h2 h3; (try simp only [zIn, zJf] at h3); omega)
  have kF26 := zFr.tr kF13 F_kr14 (by intro q hq; unfold zMq; omega)
  obtain rfl := e_kr14.symm
  refine zr_if_eq (tgt := 18) dX10_decide_13 (by decide) (fun c_13 => absurd c_13 (by decide)) (fun c_13 => ?_)
  refine zr_iconst (v := 0) dX10_decide_16 (by decide) ?_
  exact zr_ireturn dX10_decide_17 rfl (rfl) (⟨_, rfl, trivial, kF26, ⟨_, _, _, _, _, _, _, _, g0_kr14, ⟨f4, f5, f6, rfl, rfl, rfl, rfl, rfl, f13, f14, f16, f27⟩, kh15, kh16, kh17, kh18, kh19, kh20, kh21, kR22, kR23, kR24, kR25, gr, gS, gK, hm8, gU, hn60, hT, hll, hln⟩⟩)

set_option maxRecDepth 100000 in
theorem qX10_openCaseD {X : zX} (hX : X.1.stackTraces = false) {σ : zS} {y : Nat} {w tm cd dn : Int32} {K : zDk} {A S : zDk} {m : Nat} {U : Nat → zDk} {n : Nat} {T : Nat → Int32} {ll : Nat} {ln : Nat → Int32} {hs kf ld dt dc : Int32} (hM : zMo y w tm cd dn K A S m U n T ll ln hs kf ld dt dc σ) (gA : zGd A)  (hno : ¬ (zOb A 0 0) = 0) : zMet X mX10_openCase yX10_openCase 4 0 0 [.ref y] σ (zI (fun y_ s => True ∧ zFr σ s (zMq y) ∧ zMo y w tm 1 1 K A S m U n T ll ln hs kf (zOb A 0 0) (zDt A 0 0 (zOb A 0 0)) 0 s)) := by
  have hA := gA.1
  have hC8 := hA.1
  obtain ⟨e, e2⟩ := zOb_0n hC8 hno
  rw [e2]
  exact qX10_openCaseD0 hX hM gA e
set_option maxRecDepth 100000 in
theorem qX10_crossD {X : zX} (hX : X.1.stackTraces = false) {σ : zS} {y : Nat} {w tm cd dn : Int32} {K : zDk} {A S : zDk} {m : Nat} {U : Nat → zDk} {n : Nat} {T : Nat → Int32} {ll : Nat} {ln : Nat → Int32} {hs kf ld dt dc : Int32} {i : Nat} {c : Int32} (hM : zMo y w tm cd dn K A S m U n T ll ln hs kf ld dt dc σ) (gA : zGd A) (hi : i < kC A) (hl : ¬ zlet c = 0) (hno : ¬ (zOb A 1 i) = 0) : zMet X mX10_cross yX10_cross 4 0 0 [.ref y, .int (nI i), .int c] σ (zI (fun y_ s => True ∧ zFr σ s (zMq y) ∧ zMo y w tm 3 1 K A S m U n T ll ln hs kf (zOb A 1 i) (zDt A 1 i (zOb A 1 i)) 0 s)) := by
  have hA := gA.1
  have hC8 := hA.1
  by_cases hr : kR A i = -1
  rotate_left
  · have e := zOb_2 (A := A) (c := 1) (k := i) (by decide) (by decide) hi hr
    rw [e, show zDt A 1 i 2 = kR A i from rfl]
    exact qX10_crossD2 hX hM gA hi hl hr
  have e := zOb_u (A := A) (c := 1) (k := i) (by decide) (by decide) hi hr
  simp only [if_true, if_false, Nat.reduceEqDiff] at e
  have n16 := (hA.2.2 i (by omega)).1
  by_cases hn : kN A i < 16
  · rw [if_pos hn] at e; exact absurd e hno
  · rw [if_neg hn] at e; rw [e]; exact qX10_crossD1 hX hM gA hi hl hr (by omega)
set_option maxRecDepth 100000 in
theorem qX10_cutLastD {X : zX} (hX : X.1.stackTraces = false) {σ : zS} {y : Nat} {w tm cd dn : Int32} {K : zDk} {A S : zDk} {m : Nat} {U : Nat → zDk} {n : Nat} {T : Nat → Int32} {ll : Nat} {ln : Nat → Int32} {hs kf ld dt dc : Int32} {i : Nat} (hM : zMo y w tm cd dn K A S m U n T ll ln hs kf ld dt dc σ) (gA : zGd A) (hi : i < kC A) (hno : ¬ (zOb A 2 i) = 0) : zMet X mX10_cutLast yX10_cutLast 4 0 0 [.ref y, .int (nI i)] σ (zI (fun y_ s => True ∧ zFr σ s (zMq y) ∧ zMo y w tm 2 1 K A S m U n T ll ln hs kf (zOb A 2 i) (zDt A 2 i (zOb A 2 i)) 0 s)) := by
  have hA := gA.1
  have hC8 := hA.1
  by_cases hr : kR A i = -1
  rotate_left
  · have e := zOb_2 (A := A) (c := 2) (k := i) (by decide) (by decide) hi hr
    rw [e, show zDt A 2 i 2 = kR A i from rfl]
    exact qX10_cutLastD2 hX hM gA hi hr
  have e := zOb_u (A := A) (c := 2) (k := i) (by decide) (by decide) hi hr
  simp only [if_true, if_false, Nat.reduceEqDiff] at e
  by_cases hn : kN A i = 0
  · rw [if_pos hn] at e; rw [e]; exact qX10_cutLastD4 hX hM gA hi hr hn
  · rw [if_neg hn] at e; exact absurd e hno
set_option maxRecDepth 100000 in
theorem qX10_cancelD {X : zX} (hX : X.1.stackTraces = false) {σ : zS} {y : Nat} {w tm cd dn : Int32} {K : zDk} {A S : zDk} {m : Nat} {U : Nat → zDk} {n : Nat} {T : Nat → Int32} {ll : Nat} {ln : Nat → Int32} {hs kf ld dt dc : Int32} {i : Nat} (hM : zMo y w tm cd dn K A S m U n T ll ln hs kf ld dt dc σ) (gA : zGd A) (hi : i < kC A) (hno : ¬ (zOb A 3 i) = 0) : zMet X mX10_cancel yX10_cancel 4 0 0 [.ref y, .int (nI i)] σ (zI (fun y_ s => True ∧ zFr σ s (zMq y) ∧ zMo y w tm 2 1 K A S m U n T ll ln hs kf (zOb A 3 i) (zDt A 3 i (zOb A 3 i)) 0 s)) := by
  have hA := gA.1
  have hC8 := hA.1
  by_cases hr : kR A i = -1
  rotate_left
  · have e := zOb_2 (A := A) (c := 3) (k := i) (by decide) (by decide) hi hr
    rw [e, show zDt A 3 i 2 = kR A i from rfl]
    exact qX10_cancelD2 hX hM gA hi hr
  have e := zOb_u (A := A) (c := 3) (k := i) (by decide) (by decide) hi hr
  simp only [if_true, if_false, Nat.reduceEqDiff] at e
  exact absurd e hno
set_option maxRecDepth 100000 in
theorem qX10_relaxD {X : zX} (hX : X.1.stackTraces = false) {σ : zS} {y : Nat} {w tm cd dn : Int32} {K : zDk} {A S : zDk} {m : Nat} {U : Nat → zDk} {n : Nat} {T : Nat → Int32} {ll : Nat} {ln : Nat → Int32} {hs kf ld dt dc : Int32} {i : Nat} (hM : zMo y w tm cd dn K A S m U n T ll ln hs kf ld dt dc σ) (gA : zGd A) (hi : i < kC A) (hno : ¬ (zOb A 4 i) = 0) : zMet X mX10_relax yX10_relax 5 0 0 [.ref y, .int (nI i)] σ (zI (fun y_ s => True ∧ zFr σ s (zMq y) ∧ zMo y w tm 2 1 K A S m U n T ll ln hs kf (zOb A 4 i) (zDt A 4 i (zOb A 4 i)) 0 s)) := by
  have hA := gA.1
  have hC8 := hA.1
  by_cases hr : kR A i = -1
  rotate_left
  · have e := zOb_2 (A := A) (c := 4) (k := i) (by decide) (by decide) hi hr
    rw [e, show zDt A 4 i 2 = kR A i from rfl]
    exact qX10_relaxE2 hX hM gA hi hr
  have e := zOb_u (A := A) (c := 4) (k := i) (by decide) (by decide) hi hr
  simp only [if_true, if_false, Nat.reduceEqDiff] at e
  rcases hO : zRn 2000 [] (zWd A i) with _ | ⟨q, W⟩
  · rw [hO] at e; replace e : zOb A 4 i = 5 := e; rw [e]; exact qX10_relaxDN hX hM gA hi hr hO
  · rw [hO] at e; replace e : zOb A 4 i = if 16 < W.length then 5 else 0 := e
    by_cases hL : 16 < W.length
    · rw [if_pos hL] at e; rw [e]; exact qX10_relaxD5 hX hM gA hi hr hO hL
    · rw [if_neg hL] at e; exact absurd e hno
set_option maxRecDepth 100000 in
theorem qX10_decideD {X : zX} (hX : X.1.stackTraces = false) {σ : zS} {y : Nat} {w tm cd dn : Int32} {K : zDk} {A S : zDk} {m : Nat} {U : Nat → zDk} {n : Nat} {T : Nat → Int32} {ll : Nat} {ln : Nat → Int32} {hs kf ld dt dc : Int32} {i : Nat} (hM : zMo y w tm cd dn K A S m U n T ll ln hs kf ld dt dc σ) (gA : zGd A) (hi : i < kC A) (hno : ¬ (zOb A 5 i) = 0) : zMet X mX10_decide yX10_decide 5 0 0 [.ref y, .int (nI i)] σ (zI (fun y_ s => True ∧ zFr σ s (zMq y) ∧ zMo y w tm 2 1 K A S m U n T ll ln hs kf (zOb A 5 i) (zDt A 5 i (zOb A 5 i)) 0 s)) := by
  have hA := gA.1
  have hC8 := hA.1
  by_cases hr : kR A i = -1
  rotate_left
  · have e := zOb_2 (A := A) (c := 5) (k := i) (by decide) (by decide) hi hr
    rw [e, show zDt A 5 i 2 = kR A i from rfl]
    exact qX10_decideE2 hX hM gA hi hr
  have e := zOb_u (A := A) (c := 5) (k := i) (by decide) (by decide) hi hr
  simp only [if_true, if_false, Nat.reduceEqDiff] at e
  exact absurd e hno
set_option maxRecDepth 100000 in
theorem qX10_appealD {X : zX} (hX : X.1.stackTraces = false) {σ : zS} {y : Nat} {w tm cd dn : Int32} {K : zDk} {A S : zDk} {m : Nat} {U : Nat → zDk} {n : Nat} {T : Nat → Int32} {ll : Nat} {ln : Nat → Int32} {hs kf ld dt dc : Int32} {i : Nat} (hM : zMo y w tm cd dn K A S m U n T ll ln hs kf ld dt dc σ) (gA : zGd A) (hi : i < kC A) (hno : ¬ (zOb A 6 i) = 0) : zMet X mX10_appeal yX10_appeal 4 0 0 [.ref y, .int (nI i)] σ (zI (fun y_ s => True ∧ zFr σ s (zMq y) ∧ zMo y w tm 2 1 K A S m U n T ll ln hs kf (zOb A 6 i) (zDt A 6 i (zOb A 6 i)) 0 s)) := by
  have hA := gA.1
  have hC8 := hA.1
  have e := zOb_6 (A := A) hi
  unfold zOA at e
  by_cases hr : kR A i = -1
  · rw [if_pos hr] at e; rw [e]; exact qX10_appealD3 hX hM gA hi hr
  · obtain ⟨p, hp, ep⟩ := kR_at gA hi hr
    have hP8 := hA.2.1
    rw [if_neg hr, ep, nI_clamp (by omega)] at e
    by_cases hk : kA A p = 0
    · rw [if_pos hk] at e; exact absurd e hno
    · rw [if_neg hk] at e; rw [e, show zDt A 6 i 6 = kR A i from rfl, ep]; exact qX10_appealD6 hX hM gA hi hp ep (((hA.2.2 p (by omega)).2.2.2.2.1).resolve_left hk)
theorem qX10_decide {X : zX} (hX : X.1.stackTraces = false) {σ : zS} {y : Nat} {w tm cd dn : Int32} {K : zDk} {A S : zDk} {m : Nat} {U : Nat → zDk} {n : Nat} {T : Nat → Int32} {ll : Nat} {ln : Nat → Int32} {hs kf ld dt dc : Int32} {i : Nat} (hM : zMo y w tm cd dn K A S m U n T ll ln hs kf ld dt dc σ) (gA : zGd A) (hi : i < kC A) (hr : kR A i = -1) (wU : ∀ t, t < m → zDw (U t)) : zMet X mX10_decide yX10_decide 5 0 0 [.ref y, .int (nI i)] σ (zI (fun y_ s => y_ = zvt (aVer A i) i ∧ zFr σ s (zMq y) ∧ zMo y w tm 0 0 K (aVer A i) S (mN w m) (UN w A U) n T ll ln hs kf ld dt dc s)) := by
  rcases zPf_at A i with h | ⟨p, hp, h⟩
  · have hC8 := gA.1.1
    have lt := gA.lt hi hr
    exact qX10_decideM hX hM gA hi hr (by omega) h wU
  · exact qX10_decideF hX hM gA hi hr hp h wU
