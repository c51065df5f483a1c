/-! execute of the reference -/
set_option maxHeartbeats 400000 in
set_option maxRecDepth 100000 in
theorem qX10_deniesText {X : zX} (hX : X.1.stackTraces = false) {σ : zS} {y : Nat} {w tm cd dn : Int32} {K : zDk} {A S : zDk} {m : Nat} {U : Nat → zDk} {n : Nat} {T : Nat → Int32} {ll : Nat} {ln : Nat → Int32} {hs kf ld dt dc : Int32} {p : Int32} (hM : zMo y w tm cd dn K A S m U n T ll ln hs kf ld dt dc σ) (gA : zGd A)  : zMet X mX10_deniesText yX10_deniesText 1 0 0 [.ref y, .int p] σ (zI (fun y_ s => y_ = 0 ∧ zFr σ s (zMq y) ∧ zMo y w tm 2 1 K A S m U n T ll ln hs kf 7 p (if dn = 0 then 8 else ld) s)) := by
  refine zMet_of (ls := [some (.ref y), some (.int p), none]) rfl (by decide +kernel) rfl (fun h => by cases h) hX (Nat.le_of_ble_eq_true rfl) rfl ?_
  obtain ⟨F, g, kp, sv, bf, ip, sg, td, h0, hf, h1, h2, h3, h4, h5, h6, h11, hWa, hC, hX9, hOt, gr, gS, gK, hm8, gU, hn60, hT, hll, hln⟩ := id hM
  obtain ⟨f4, f5, f6, f7, f8, f9, f10, f11, f13, f14, f16, f27⟩ := id hf
  have hA := gA.1
  obtain ⟨r0, r1, rc, rp⟩ := id gr
  obtain ⟨hC8, hP8, hW⟩ := id hA
  refine zr_aload_n dX10_deniesText_0 rfl ?_
  refine zr_getM (v := .int (F 7)) dX10_deniesText_1 fX10_52 h0 rfl ?_
  refine zr_eqi (x' := dn) (f7) ?_
  refine zr_if_eq (tgt := 14) dX10_deniesText_4 (by decide) (fun c_4 => ?_) (fun c_4 => ?_)
  · refine zr_bipush (v := 8) dX10_deniesText_14 (by decide) ?_
    refine zr_istore_n (ls' := [some (.ref y), some (.int p), some (.int 8)]) dX10_deniesText_16 rfl (by decide) rfl ?_
    refine zr_aload_n dX10_deniesText_17 rfl ?_
    refine zr_iconst (v := 2) dX10_deniesText_18 (by decide) ?_
    refine zr_bipush (v := 7) dX10_deniesText_19 (by decide) ?_
    refine zr_iload_n dX10_deniesText_21 rfl ?_
    refine zr_callVi [] dX10_deniesText_22 vX10_141 (qX10_denies hX (p := 2) (n := 7) (q := p) h0) h0 (by decide) (by decide) (by decide) rfl rfl (Nat.le_of_ble_eq_true rfl) (by decide) rfl (fun kr1 s_kr1 h_kr1 => ?_)
    obtain ⟨e_kr1, F_kr1, g0_kr1⟩ := h_kr1
    have kh2 : s_kr1.1 (y + 1) = .inl (0, 82, .inl g) := zFr.get F_kr1 (by omega) h1
    have kh3 : s_kr1.1 (y + 2) = .inl (0, 656, .inl kp) := zFr.get F_kr1 (by omega) h2
    have kh4 : s_kr1.1 (y + 3) = .inl (0, 82, .inl sv) := zFr.get F_kr1 (by omega) h3
    have kh5 : s_kr1.1 (y + 4) = .inl (0, 82, .inl bf) := zFr.get F_kr1 (by omega) h4
    have kh6 : s_kr1.1 (y + 5) = .inl (0, 60, .inl ip) := zFr.get F_kr1 (by omega) h5
    have kh7 : s_kr1.1 (y + 6) = .inl (1, 400, .inl sg) := zFr.get F_kr1 (by omega) h6
    have kh8 : s_kr1.1 (y + 11) = .inl (0, 93, .inl td) := zFr.get F_kr1 (by omega) h11
    have kR9 : zWa y s_kr1 := zWa.fr hWa F_kr1 (by intro q h1 h2 h3; (try simp only [zIn, zJf] at h3); omega)
    have kR10 : zCy y s_kr1 := zCy.fr hC F_kr1 (by intro q h1 h2 h3; (try simp only [zIn, zJf] at h3); omega)
    have kR11 : zXa y s_kr1 := zXa.fr hX9 F_kr1 (by intro q h1 h2 h3; (try simp only [zIn, zJf] at h3); omega)
    have kR12 : zOa y s_kr1 := zOa.fr hOt F_kr1 (by intro q h1 h2 h3; (try simp only [zIn, zJf] at h3); omega)
    have kF13 := zFr.tr zFr.rf (P := zMq y) F_kr1 (by intro q hq; unfold zMq; omega)
    obtain rfl := e_kr1.symm
    refine zr_pop dX10_deniesText_25 rfl ?_
    refine zr_aload_n dX10_deniesText_26 rfl ?_
    refine zr_iload_n dX10_deniesText_27 rfl ?_
    refine zr_putM (v := 8) dX10_deniesText_28 pX10_62 g0_kr1 (rfl) (rfl) (Nat.le_of_ble_eq_true rfl) (zms_11 _ _ _) ?_
    refine zr_sig (fun ks14 e_ks14 => ?_)
    have kh15 : ks14.1 y = zmO y (upd (upd (upd (upd (upd F 7 1) 8 2) 9 7) 10 p) 11 8) := by rw [e_ks14]; exact zup_at _ _ _
    have kh16 : ks14.1 (y + 1) = .inl (0, 82, .inl g) := by rw [e_ks14, zup_ne _ _ (by omega)]; exact kh2
    have kh17 : ks14.1 (y + 2) = .inl (0, 656, .inl kp) := by rw [e_ks14, zup_ne _ _ (by omega)]; exact kh3
    have kh18 : ks14.1 (y + 3) = .inl (0, 82, .inl sv) := by rw [e_ks14, zup_ne _ _ (by omega)]; exact kh4
    have kh19 : ks14.1 (y + 4) = .inl (0, 82, .inl bf) := by rw [e_ks14, zup_ne _ _ (by omega)]; exact kh5
    have kh20 : ks14.1 (y + 5) = .inl (0, 60, .inl ip) := by rw [e_ks14, zup_ne _ _ (by omega)]; exact kh6
    have kh21 : ks14.1 (y + 6) = .inl (1, 400, .inl sg) := by rw [e_ks14, zup_ne _ _ (by omega)]; exact kh7
    have kh22 : ks14.1 (y + 11) = .inl (0, 93, .inl td) := by rw [e_ks14, zup_ne _ _ (by omega)]; exact kh8
    have kF23 := zFr.put kF13 e_ks14 (by unfold zMq; omega)
    have kR24 : zWa y ks14 := zWa.fr kR9 (zFr.put (P := fun q => q = y) zFr.rf e_ks14 rfl) (by intro q h1 h2 h3; (try simp only [zIn, zJf] at h3); omega)
    have kR25 : zCy y ks14 := zCy.fr kR10 (zFr.put (P := fun q => q = y) zFr.rf e_ks14 rfl) (by intro q h1 h2 h3; (try simp only [zIn, zJf] at h3); omega)
    have kR26 : zXa y ks14 := zXa.fr kR11 (zFr.put (P := fun q => q = y) zFr.rf e_ks14 rfl) (by intro q h1 h2 h3; (try simp only [zIn, zJf] at h3); omega)
    have kR27 : zOa y ks14 := zOa.fr kR12 (zFr.put (P := fun q => q = y) zFr.rf e_ks14 rfl) (by intro q h1 h2 h3; (try simp only [zIn, zJf] at h3); omega)
    refine zr_iconst (v := 0) dX10_deniesText_31 (by decide) ?_
    exact zr_ireturn dX10_deniesText_32 rfl (rfl) (⟨_, rfl, rfl, kF23, ⟨_, _, _, _, _, _, _, _, kh15, ⟨f4, f5, f6, rfl, rfl, rfl, rfl, (if_pos c_4).symm, f13, f14, f16, f27⟩, kh16, kh17, kh18, kh19, kh20, kh21, kh22, kR24, kR25, kR26, kR27, gr, gS, gK, hm8, gU, hn60, hT, hll, hln⟩⟩)
  · refine zr_aload_n dX10_deniesText_7 rfl ?_
    refine zr_getM (v := .int (F 9)) dX10_deniesText_8 fX10_56 h0 rfl ?_
    refine zr_eqi (x' := ld) (f9) ?_
    refine zr_goto (tgt := 16) dX10_deniesText_11 (by decide) ?_
    refine zr_istore_n (ls' := [some (.ref y), some (.int p), some (.int ld)]) dX10_deniesText_16 rfl (by decide) rfl ?_
    refine zr_aload_n dX10_deniesText_17 rfl ?_
    refine zr_iconst (v := 2) dX10_deniesText_18 (by decide) ?_
    refine zr_bipush (v := 7) dX10_deniesText_19 (by decide) ?_
    refine zr_iload_n dX10_deniesText_21 rfl ?_
    refine zr_callVi [] dX10_deniesText_22 vX10_141 (qX10_denies hX (p := 2) (n := 7) (q := p) h0) h0 (by decide) (by decide) (by decide) rfl rfl (Nat.le_of_ble_eq_true rfl) (by decide) rfl (fun kr28 s_kr28 h_kr28 => ?_)
    obtain ⟨e_kr28, F_kr28, g0_kr28⟩ := h_kr28
    have kh29 : s_kr28.1 (y + 1) = .inl (0, 82, .inl g) := zFr.get F_kr28 (by omega) h1
    have kh30 : s_kr28.1 (y + 2) = .inl (0, 656, .inl kp) := zFr.get F_kr28 (by omega) h2
    have kh31 : s_kr28.1 (y + 3) = .inl (0, 82, .inl sv) := zFr.get F_kr28 (by omega) h3
    have kh32 : s_kr28.1 (y + 4) = .inl (0, 82, .inl bf) := zFr.get F_kr28 (by omega) h4
    have kh33 : s_kr28.1 (y + 5) = .inl (0, 60, .inl ip) := zFr.get F_kr28 (by omega) h5
    have kh34 : s_kr28.1 (y + 6) = .inl (1, 400, .inl sg) := zFr.get F_kr28 (by omega) h6
    have kh35 : s_kr28.1 (y + 11) = .inl (0, 93, .inl td) := zFr.get F_kr28 (by omega) h11
    have kR36 : zWa y s_kr28 := zWa.fr hWa F_kr28 (by intro q h1 h2 h3; (try simp only [zIn, zJf] at h3); omega)
    have kR37 : zCy y s_kr28 := zCy.fr hC F_kr28 (by intro q h1 h2 h3; (try simp only [zIn, zJf] at h3); omega)
    have kR38 : zXa y s_kr28 := zXa.fr hX9 F_kr28 (by intro q h1 h2 h3; (try simp only [zIn, zJf] at h3); omega)
    have kR39 : zOa y s_kr28 := zOa.fr hOt F_kr28 (by intro q h1 h2 h3; (try simp only [zIn, zJf] at h3); omega)
    have kF40 := zFr.tr zFr.rf (P := zMq y) F_kr28 (by intro q hq; unfold zMq; omega)
    obtain rfl := e_kr28.symm
    refine zr_pop dX10_deniesText_25 rfl ?_
    refine zr_aload_n dX10_deniesText_26 rfl ?_
    refine zr_iload_n dX10_deniesText_27 rfl ?_
    refine zr_putM (v := ld) dX10_deniesText_28 pX10_62 g0_kr28 (rfl) (rfl) (Nat.le_of_ble_eq_true rfl) (zms_11 _ _ _) ?_
    refine zr_sig (fun ks41 e_ks41 => ?_)
    have kh42 : ks41.1 y = zmO y (upd (upd (upd (upd (upd F 7 1) 8 2) 9 7) 10 p) 11 ld) := by rw [e_ks41]; exact zup_at _ _ _
    have kh43 : ks41.1 (y + 1) = .inl (0, 82, .inl g) := by rw [e_ks41, zup_ne _ _ (by omega)]; exact kh29
    have kh44 : ks41.1 (y + 2) = .inl (0, 656, .inl kp) := by rw [e_ks41, zup_ne _ _ (by omega)]; exact kh30
    have kh45 : ks41.1 (y + 3) = .inl (0, 82, .inl sv) := by rw [e_ks41, zup_ne _ _ (by omega)]; exact kh31
    have kh46 : ks41.1 (y + 4) = .inl (0, 82, .inl bf) := by rw [e_ks41, zup_ne _ _ (by omega)]; exact kh32
    have kh47 : ks41.1 (y + 5) = .inl (0, 60, .inl ip) := by rw [e_ks41, zup_ne _ _ (by omega)]; exact kh33
    have kh48 : ks41.1 (y + 6) = .inl (1, 400, .inl sg) := by rw [e_ks41, zup_ne _ _ (by omega)]; exact kh34
    have kh49 : ks41.1 (y + 11) = .inl (0, 93, .inl td) := by rw [e_ks41, zup_ne _ _ (by omega)]; exact kh35
    have kF50 := zFr.put kF40 e_ks41 (by unfold zMq; omega)
    have kR51 : zWa y ks41 := zWa.fr kR36 (zFr.put (P := fun q => q = y) zFr.rf e_ks41 rfl) (by intro q h1 h2 h3; (try simp only [zIn, zJf] at h3); omega)
    have kR52 : zCy y ks41 := zCy.fr kR37 (zFr.put (P := fun q => q = y) zFr.rf e_ks41 rfl) (by intro q h1 h2 h3; (try simp only [zIn, zJf] at h3); omega)
    have kR53 : zXa y ks41 := zXa.fr kR38 (zFr.put (P := fun q => q = y) zFr.rf e_ks41 rfl) (by intro q h1 h2 h3; (try simp only [zIn, zJf] at h3); omega)
    have kR54 : zOa y ks41 := zOa.fr kR39 (zFr.put (P := fun q => q = y) zFr.rf e_ks41 rfl) (by intro q h1 h2 h3; (try simp only [zIn, zJf] at h3); omega)
    refine zr_iconst (v := 0) dX10_deniesText_31 (by decide) ?_
    exact zr_ireturn dX10_deniesText_32 rfl (rfl) (⟨_, rfl, rfl, kF50, ⟨_, _, _, _, _, _, _, _, kh42, ⟨f4, f5, f6, rfl, rfl, rfl, rfl, (if_neg c_4).symm, f13, f14, f16, f27⟩, kh43, kh44, kh45, kh46, kh47, kh48, kh49, kR51, kR52, kR53, kR54, gr, gS, gK, hm8, gU, hn60, hT, hll, hln⟩⟩)

/-- what a text's run ends with -/
def zXM (σ : zS) (y : Nat) (A S : zDk) (m : Nat) (U : Nat → zDk) (T : Nat → Int32) (ll : Nat) (ln : Nat → Int32) (hs kf ld dt dc : Int32) (L : zTL) : zDk ⊕ (Nat × Int32) → zO → zS → Prop
  | .inl B => zI (fun y_ s => y_ = nI L.length ∧ zFr σ s (zMr y) ∧ ∃ tm dn, zMo y 0 tm 0 dn A B S (min (m + 1) 8) (zPu A U) 0 T ll ln hs kf ld dt dc s)
  | .inr q => zI (fun y_ s => True ∧ zFr σ s (zMr y) ∧ ∃ tm, zMo y 0 tm 2 1 A A S m U 0 T ll ln hs kf 7 (nI q.1) q.2 s)
set_option maxHeartbeats 400000 in
set_option maxRecDepth 100000 in
theorem l_xm {X : zX} (hX : X.1.stackTraces = false) {σ : zS} {y : Nat} {A S : zDk} {m : Nat} {U : Nat → zDk} {n : Nat} {T : Nat → Int32} {ll : Nat} {ln : Nat → Int32} {hs kf ld dt dc : Int32} {L : zTL} {td : Nat → Int32} (gA : zGd A) (wU : ∀ t, t < m → zDw (U t)) (hok : ∀ q ∈ L, zLok q) (hL12 : L.length ≤ 12) (hrows : (∀ (i : Nat) (h : i < L.length), zTl td i L[i])) : ∀ (Lr : zTL) (i : Nat) (B : zDk) (s : zS) (dn got : Int32), (L.drop i = Lr) → (i ≤ L.length) → (zEx A 0 L = zEx B i Lr) → (zGd B) → (zFr σ s (zMr y)) → (zMo y 1 (nI L.length) 0 dn A B S m U 0 T ll ln hs kf ld dt dc s) → (s.1 (y + 11) = .inl (0, 93, .inl td)) → zW X mX10_execute 7 0 0 (zXM σ y A S m U T ll ln hs kf ld dt dc L (zEx A 0 L)) 62 [some (.ref y), some (.int 1), some (.int (nI i)), some (.int got)] [] s := by
  intro Lr
  induction Lr with
  | nil =>
    intro i B s dn got hD hi hE gB hFr hM ht
    have hK := gA.1
    have hl : L.length ≤ i := List.drop_eq_nil_iff.mp hD
    have el : i = L.length := by omega
    obtain ⟨F, g, kp, sv, bf, ip, sg, td0, h0, hf, h1, h2, h3, h4, h5, h6, h11, hWa, hC, hX9, hOt, gr, gS, gK, hm8, gU, hn60, hT, hll, hln⟩ := id hM
    obtain ⟨f4, f5, f6, f7, f8, f9, f10, f11, f13, f14, f16, f27⟩ := id hf
    refine zr_iload_n dX10_execute_62 rfl ?_
    refine zr_aload_n dX10_execute_63 rfl ?_
    refine zr_getM (v := .int (F 27)) dX10_execute_64 fX10_234 h0 rfl ?_
    refine zr_eqi (x' := nI L.length) (f27) ?_
    refine zr_icmp_ge (tgt := 98) dX10_execute_67 (by decide) (fun c_67 => ?_) (fun c_67 => absurd (by rw [el]; exact Int32.le_refl _) c_67)
    refine zr_aload_n dX10_execute_98 rfl ?_
    refine zr_iconst (v := 0) dX10_execute_99 (by decide) ?_
    refine zr_putM (v := 0) dX10_execute_100 pX10_65 h0 (rfl) (rfl) (Nat.le_of_ble_eq_true rfl) (zms_6 _ _ _) ?_
    refine zr_sig (fun ks1 e_ks1 => ?_)
    have kh2 : ks1.1 y = zmO y (upd F 6 0) := by rw [e_ks1]; exact zup_at _ _ _
    have kh3 : ks1.1 (y + 1) = .inl (0, 82, .inl g) := by rw [e_ks1, zup_ne _ _ (by omega)]; exact h1
    have kh4 : ks1.1 (y + 2) = .inl (0, 656, .inl kp) := by rw [e_ks1, zup_ne _ _ (by omega)]; exact h2
    have kh5 : ks1.1 (y + 3) = .inl (0, 82, .inl sv) := by rw [e_ks1, zup_ne _ _ (by omega)]; exact h3
    have kh6 : ks1.1 (y + 4) = .inl (0, 82, .inl bf) := by rw [e_ks1, zup_ne _ _ (by omega)]; exact h4
    have kh7 : ks1.1 (y + 5) = .inl (0, 60, .inl ip) := by rw [e_ks1, zup_ne _ _ (by omega)]; exact h5
    have kh8 : ks1.1 (y + 6) = .inl (1, 400, .inl sg) := by rw [e_ks1, zup_ne _ _ (by omega)]; exact h6
    have kh9 : ks1.1 (y + 11) = .inl (0, 93, .inl td) := by rw [e_ks1, zup_ne _ _ (by omega)]; exact ht
    have kF10 := zFr.put hFr e_ks1 (by unfold zMr; omega)
    have kR11 : zWa y ks1 := zWa.fr hWa (zFr.put (P := fun q => q = y) zFr.rf e_ks1 rfl) (by intro q h1 h2 h3; (try simp only [zIn, zJf] at h3); omega)
    have kR12 : zCy y ks1 := zCy.fr hC (zFr.put (P := fun q => q = y) zFr.rf e_ks1 rfl) (by intro q h1 h2 h3; (try simp only [zIn, zJf] at h3); omega)
    have kR13 : zXa y ks1 := zXa.fr hX9 (zFr.put (P := fun q => q = y) zFr.rf e_ks1 rfl) (by intro q h1 h2 h3; (try simp only [zIn, zJf] at h3); omega)
    have kR14 : zOa y ks1 := zOa.fr hOt (zFr.put (P := fun q => q = y) zFr.rf e_ks1 rfl) (by intro q h1 h2 h3; (try simp only [zIn, zJf] at h3); omega)
    refine zr_aload_n dX10_execute_103 rfl ?_
    refine zr_getM (v := .int (F 8)) dX10_execute_104 fX10_49 kh2 rfl ?_
    refine zr_eqi (x' := 0) (f8) ?_
    refine zr_if_le (tgt := 139) dX10_execute_107 (by decide) (fun c_107 => ?_) (fun c_107 => absurd (by decide) c_107)
    refine zr_aload_n dX10_execute_139 rfl ?_
    refine zr_aload_n dX10_execute_140 rfl ?_
    refine zr_getM (v := .ref (y + 4)) dX10_execute_141 fX10_19 kh2 rfl ?_
    refine zr_callVv [] dX10_execute_144 vX10_145 (qX10_keeps hX (r := y + 4) kh2 kh6 (by omega) (by omega) kh4 f5 rfl hm8 gK hK gU wU) kh2 (by decide) (by decide) (by decide) rfl rfl (Nat.le_of_ble_eq_true rfl) (by decide) rfl (fun s0 h_ => ?_)
    obtain ⟨F0, g00, kp1, kc1, gU1⟩ := h_
    have kh15 : s0.1 (y + 1) = .inl (0, 82, .inl g) := zFr.get F0 (by omega) kh3
    have kh16 : s0.1 (y + 3) = .inl (0, 82, .inl sv) := zFr.get F0 (by omega) kh5
    have kh17 : s0.1 (y + 4) = .inl (0, 82, .inl bf) := zFr.get F0 (by omega) kh6
    have kh18 : s0.1 (y + 5) = .inl (0, 60, .inl ip) := zFr.get F0 (by omega) kh7
    have kh19 : s0.1 (y + 6) = .inl (1, 400, .inl sg) := zFr.get F0 (by omega) kh8
    have kh20 : s0.1 (y + 11) = .inl (0, 93, .inl td) := zFr.get F0 (by omega) kh9
    have kR21 := zWa.fr kR11 F0 (by intro q a b c; omega)
    have kR22 := zCy.fr kR12 F0 (by intro q a b c; omega)
    have kR23 := zXa.fr kR13 F0 (by intro q a b c; omega)
    have kR24 := zOa.fr kR14 F0 (by intro q a b c; omega)
    have kF25 := zFr.tr kF10 F0 (by intro q hq; (try unfold zMq at hq); unfold zMr; omega)
    refine zr_aload_n dX10_execute_147 rfl ?_
    refine zr_getM (v := .int (F 27)) dX10_execute_148 fX10_234 g00 rfl ?_
    refine zr_eqi (x' := nI L.length) (f27) ?_
    refine zr_ireturn dX10_execute_151 rfl (rfl) ?_
    rw [hE, zEx_nil]
    have eN : mN 0 m = min (m + 1) 8 := if_pos rfl
    have eU : UN 0 A U = zPu A U := if_pos rfl
    replace gU1 : zHs (mN 0 m) (UN 0 A U) kp1 := gU1
    rw [eN, eU] at gU1
    exact ⟨_, rfl, rfl, kF25, _, _, ⟨_, _, _, _, _, _, _, _, g00, ⟨f4, rfl, rfl, f7, rfl, f9, f10, f11, f13, f14, f16, f27⟩, kh15, kc1, kh16, kh17, kh18, kh19, kh20, kR21, kR22, kR23, kR24, gr, gS, gK, (by omega), gU1, hn60, hT, hll, hln⟩⟩
  | cons q Lr ih =>
    intro i B s dn got hD hi hE gB hFr hM ht
    have hlt : i < L.length := Nat.not_le.mp (fun z => by rw [List.drop_eq_nil_iff.mpr z] at hD; cases hD)
    have hLi : L[i] = q ∧ L.drop (i + 1) = Lr := by
      have z := List.drop_eq_getElem_cons hlt
      rw [hD] at z
      injection z with z1 z2
      exact ⟨z1.symm, z2.symm⟩
    have hrow := hrows i hlt
    rw [hLi.1] at hrow
    have hok1 : zLok q := hLi.1 ▸ hok _ (List.getElem_mem hlt)
    obtain ⟨F, g, kp, sv, bf, ip, sg, td0, h0, hf, h1, h2, h3, h4, h5, h6, h11, hWa, hC, hX9, hOt, gr, gS, gK, hm8, gU, hn60, hT, hll, hln⟩ := id hM
    obtain ⟨f4, f5, f6, f7, f8, f9, f10, f11, f13, f14, f16, f27⟩ := id hf
    refine zr_iload_n dX10_execute_62 rfl ?_
    refine zr_aload_n dX10_execute_63 rfl ?_
    refine zr_getM (v := .int (F 27)) dX10_execute_64 fX10_234 h0 rfl ?_
    refine zr_eqi (x' := nI L.length) (f27) ?_
    refine zr_icmp_ge (tgt := 98) dX10_execute_67 (by decide) (fun c_67 => absurd c_67 (fun z => absurd ((nI_leI (by omega) (by omega)).mp z) (by omega))) (fun c_67 => ?_)
    refine zr_aload_n dX10_execute_70 rfl ?_
    refine zr_getM (v := .int (F 8)) dX10_execute_71 fX10_49 h0 rfl ?_
    refine zr_eqi (x' := 0) (f8) ?_
    refine zr_if_ne (tgt := 98) dX10_execute_74 (by decide) (fun c_74 => absurd (by decide) c_74) (fun c_74 => ?_)
    refine zr_aload_n dX10_execute_77 rfl ?_
    refine zr_iconst (v := 3) dX10_execute_78 (by decide) ?_
    refine zr_iload_n dX10_execute_79 rfl ?_
    refine zr_imul dX10_execute_80 ?_
    refine zr_eqi (x' := nI (3 * i)) (pk_mul 3 i) ?_
    obtain ⟨c, k, l⟩ := q
    have hq := hrow
    by_cases hob : zOb B c k = 0
    · refine zr_callVi [] dX10_execute_81 vX10_299 (qX10_carriesY hX (t := i) hM gB ht (by omega) wU hrow hok1 hob) h0 (by decide) (by decide) (by decide) rfl rfl (Nat.le_of_ble_eq_true rfl) (by decide) rfl (fun r1 s1 h_ => ?_)
      obtain ⟨F1, dn1, hM1⟩ := h_
      have ht1 := zFr.get F1 (by unfold zMq; omega) ht
      have F2 := zFr.tr hFr F1 (by intro q hq; (try unfold zMq at hq); unfold zMr; omega)
      clear h0 hf h1 h2 h3 h4 h5 h6 h11 hWa hC hX9 hOt gr gS gK gU hT hln f4 f5 f6 f7 f8 f9 f10 f11 f13 f14 f16 f27
      have hM := hM1
      obtain ⟨F, g, kp, sv, bf, ip, sg, td0, h0, hf, h1, h2, h3, h4, h5, h6, h11, hWa, hC, hX9, hOt, gr, gS, gK, hm8, gU, hn60, hT, hll, hln⟩ := id hM
      obtain ⟨f4, f5, f6, f7, f8, f9, f10, f11, f13, f14, f16, f27⟩ := id hf
      refine zr_istore_n (ls' := [some (.ref y), some (.int 1), some (.int (nI i)), some (.int r1)]) dX10_execute_84 rfl (by decide) rfl ?_
      refine zr_aload_n dX10_execute_85 rfl ?_
      refine zr_getM (v := .int (F 8)) dX10_execute_86 fX10_49 h0 rfl ?_
      refine zr_eqi (x' := 0) (f8) ?_
      refine zr_if_ne (tgt := 62) dX10_execute_89 (by decide) (fun c_89 => absurd (by decide) c_89) (fun c_89 => ?_)
      refine zr_iinc (v := nI (i + 1)) (ls' := [some (.ref y), some (.int 1), some (.int (nI (i + 1))), some (.int r1)]) dX10_execute_92 rfl (nI_1 _) (by decide) rfl ?_
      refine zr_goto (tgt := 62) dX10_execute_95 (by decide) ?_
      exact ih (i + 1) (aCmd B c k l) _ _ _ hLi.2 (by omega) (by rw [hE, zEx_ok Lr hob]) (gB.cmd (zOb_ok hob hok1.1) hok1.1 hok1.2.2) F2 hM1 ht1
    · refine zr_callVi [] dX10_execute_81 vX10_299 (qX10_carriesN hX (t := i) hM gB ht (by omega) wU hrow hok1 hob) h0 (by decide) (by decide) (by decide) rfl rfl (Nat.le_of_ble_eq_true rfl) (by decide) rfl (fun r1 s1 h_ => ?_)
      obtain ⟨F1, cd1, dn1, ld1, dt1, dc1, cdp, hM1, eob⟩ := h_
      have ht1 := zFr.get F1 (by unfold zMq; omega) ht
      have F2 := zFr.tr hFr F1 (by intro q hq; (try unfold zMq at hq); unfold zMr; omega)
      clear h0 hf h1 h2 h3 h4 h5 h6 h11 hWa hC hX9 hOt gr gS gK gU hT hln f4 f5 f6 f7 f8 f9 f10 f11 f13 f14 f16 f27
      have hM := hM1
      obtain ⟨F, g, kp, sv, bf, ip, sg, td0, h0, hf, h1, h2, h3, h4, h5, h6, h11, hWa, hC, hX9, hOt, gr, gS, gK, hm8, gU, hn60, hT, hll, hln⟩ := id hM
      obtain ⟨f4, f5, f6, f7, f8, f9, f10, f11, f13, f14, f16, f27⟩ := id hf
      have cd0 : ¬ cd1 = 0 := fun q => by rw [q] at cdp; exact absurd cdp (by decide)
      have cdl : ¬ cd1 ≤ 0 := Int32.not_le.mpr cdp
      refine zr_istore_n (ls' := [some (.ref y), some (.int 1), some (.int (nI i)), some (.int r1)]) dX10_execute_84 rfl (by decide) rfl ?_
      refine zr_aload_n dX10_execute_85 rfl ?_
      refine zr_getM (v := .int (F 8)) dX10_execute_86 fX10_49 h0 rfl ?_
      refine zr_eqi (x' := cd1) (f8) ?_
      refine zr_if_ne (tgt := 62) dX10_execute_89 (by decide) (fun c_89 => ?_) (fun c_89 => absurd c_89 (cd0))
      refine zr_iload_n dX10_execute_62 rfl ?_
      refine zr_aload_n dX10_execute_63 rfl ?_
      refine zr_getM (v := .int (F 27)) dX10_execute_64 fX10_234 h0 rfl ?_
      refine zr_eqi (x' := nI L.length) (f27) ?_
      refine zr_icmp_ge (tgt := 98) dX10_execute_67 (by decide) (fun c_67 => absurd c_67 (fun z => absurd ((nI_leI (by omega) (by omega)).mp z) (by omega))) (fun c_67 => ?_)
      refine zr_aload_n dX10_execute_70 rfl ?_
      refine zr_getM (v := .int (F 8)) dX10_execute_71 fX10_49 h0 rfl ?_
      refine zr_eqi (x' := cd1) (f8) ?_
      refine zr_if_ne (tgt := 98) dX10_execute_74 (by decide) (fun c_74 => ?_) (fun c_74 => absurd c_74 (cd0))
      refine zr_aload_n dX10_execute_98 rfl ?_
      refine zr_iconst (v := 0) dX10_execute_99 (by decide) ?_
      refine zr_putM (v := 0) dX10_execute_100 pX10_65 h0 (rfl) (rfl) (Nat.le_of_ble_eq_true rfl) (zms_6 _ _ _) ?_
      refine zr_sig (fun ks1 e_ks1 => ?_)
      have kh2 : ks1.1 y = zmO y (upd F 6 0) := by rw [e_ks1]; exact zup_at _ _ _
      have kh3 : ks1.1 (y + 1) = .inl (0, 82, .inl g) := by rw [e_ks1, zup_ne _ _ (by omega)]; exact h1
      have kh4 : ks1.1 (y + 2) = .inl (0, 656, .inl kp) := by rw [e_ks1, zup_ne _ _ (by omega)]; exact h2
      have kh5 : ks1.1 (y + 3) = .inl (0, 82, .inl sv) := by rw [e_ks1, zup_ne _ _ (by omega)]; exact h3
      have kh6 : ks1.1 (y + 4) = .inl (0, 82, .inl bf) := by rw [e_ks1, zup_ne _ _ (by omega)]; exact h4
      have kh7 : ks1.1 (y + 5) = .inl (0, 60, .inl ip) := by rw [e_ks1, zup_ne _ _ (by omega)]; exact h5
      have kh8 : ks1.1 (y + 6) = .inl (1, 400, .inl sg) := by rw [e_ks1, zup_ne _ _ (by omega)]; exact h6
      have kh9 : ks1.1 (y + 11) = .inl (0, 93, .inl td) := by rw [e_ks1, zup_ne _ _ (by omega)]; exact ht1
      have kF10 := zFr.put F2 e_ks1 (by unfold zMr; omega)
      have kR11 : zWa y ks1 := zWa.fr hWa (zFr.put (P := fun q => q = y) zFr.rf e_ks1 rfl) (by intro q h1 h2 h3; (try simp only [zIn, zJf] at h3); omega)
      have kR12 : zCy y ks1 := zCy.fr hC (zFr.put (P := fun q => q = y) zFr.rf e_ks1 rfl) (by intro q h1 h2 h3; (try simp only [zIn, zJf] at h3); omega)
      have kR13 : zXa y ks1 := zXa.fr hX9 (zFr.put (P := fun q => q = y) zFr.rf e_ks1 rfl) (by intro q h1 h2 h3; (try simp only [zIn, zJf] at h3); omega)
      have kR14 : zOa y ks1 := zOa.fr hOt (zFr.put (P := fun q => q = y) zFr.rf e_ks1 rfl) (by intro q h1 h2 h3; (try simp only [zIn, zJf] at h3); omega)
      refine zr_aload_n dX10_execute_103 rfl ?_
      refine zr_getM (v := .int (F 8)) dX10_execute_104 fX10_49 kh2 rfl ?_
      refine zr_eqi (x' := cd1) (f8) ?_
      refine zr_if_le (tgt := 139) dX10_execute_107 (by decide) (fun c_107 => absurd c_107 (cdl)) (fun c_107 => ?_)
      refine zr_aload_n dX10_execute_110 rfl ?_
      refine zr_getM (v := .ref (y + 4)) dX10_execute_111 fX10_19 kh2 rfl ?_
      refine zr_iconst (v := 0) dX10_execute_114 (by decide) ?_
      refine zr_aload_n dX10_execute_115 rfl ?_
      refine zr_getM (v := .ref (y + 1)) dX10_execute_116 fX10_7 kh2 rfl ?_
      refine zr_iconst (v := 0) dX10_execute_119 (by decide) ?_
      refine zr_callSv [] dX10_execute_120 vX10_71 (qX10_copies hX (p := 0) (q := 0) kh6 (by omega) (by omega) (by omega) (by omega) (by omega) kh3) (by decide) (by decide) (by decide) rfl rfl (Nat.le_of_ble_eq_true rfl) rfl (fun s_kr15 h_kr15 => ?_)
      obtain ⟨F_kr15, g0_kr15⟩ := h_kr15
      have kh16 : s_kr15.1 y = zmO y (upd F 6 0) := zFr.get F_kr15 (by omega) kh2
      have kh17 : s_kr15.1 (y + 2) = .inl (0, 656, .inl kp) := zFr.get F_kr15 (by omega) kh4
      have kh18 : s_kr15.1 (y + 3) = .inl (0, 82, .inl sv) := zFr.get F_kr15 (by omega) kh5
      have kh19 : s_kr15.1 (y + 4) = .inl (0, 82, .inl bf) := zFr.get F_kr15 (by omega) kh6
      have kh20 : s_kr15.1 (y + 5) = .inl (0, 60, .inl ip) := zFr.get F_kr15 (by omega) kh7
      have kh21 : s_kr15.1 (y + 6) = .inl (1, 400, .inl sg) := zFr.get F_kr15 (by omega) kh8
      have kh22 : s_kr15.1 (y + 11) = .inl (0, 93, .inl td) := zFr.get F_kr15 (by omega) kh9
      have kR23 : zWa y s_kr15 := zWa.fr kR11 F_kr15 (by intro q h1 h2 h3; (try simp only [zIn, zJf] at h3); omega)
      have kR24 : zCy y s_kr15 := zCy.fr kR12 F_kr15 (by intro q h1 h2 h3; (try simp only [zIn, zJf] at h3); omega)
      have kR25 : zXa y s_kr15 := zXa.fr kR13 F_kr15 (by intro q h1 h2 h3; (try simp only [zIn, zJf] at h3); omega)
      have kR26 : zOa y s_kr15 := zOa.fr kR14 F_kr15 (by intro q h1 h2 h3; (try simp only [zIn, zJf] at h3); omega)
      have kF27 := zFr.tr kF10 F_kr15 (by intro q hq; (try unfold zMq at hq); unfold zMr; omega)
      refine zr_aload_n dX10_execute_123 rfl ?_
      refine zr_iload_n dX10_execute_124 rfl ?_
      have hM2 : zMo y 0 (nI L.length) cd1 dn1 A A S m U 0 T ll ln hs kf ld1 dt1 dc1 s_kr15 := ⟨_, _, _, _, _, _, _, _, kh16, ⟨f4, f5, rfl, f7, f8, f9, f10, f11, f13, f14, f16, f27⟩, g0_kr15, kh17, kh18, kh19, kh20, kh21, kh22, kR23, kR24, kR25, kR26, (zGr.cpn gK gA.1 (fun k hk => by rw [Nat.zero_add])), gS, gK, hm8, gU, hn60, hT, hll, hln⟩
      refine zr_callVi [] dX10_execute_125 vX10_302 (qX10_deniesText hX (p := nI i) hM2 gA) kh16 (by decide) (by decide) (by decide) rfl rfl (Nat.le_of_ble_eq_true rfl) (by decide) rfl (fun r2 s2 h_ => ?_)
      obtain ⟨rfl, F3, hM3⟩ := h_
      have kF28 := zFr.tr kF27 F3 (by intro q hq; (try unfold zMq at hq); unfold zMr; omega)
      rw [eob] at hM3
      refine zr_iload_n dX10_execute_128 rfl ?_
      refine zr_if_le (tgt := 136) dX10_execute_129 (by decide) (fun c_129 => ?_) (fun c_129 => ?_)
      · refine zr_iload_n dX10_execute_136 rfl ?_
        refine zr_iadd dX10_execute_137 ?_
        refine zr_ireturn dX10_execute_138 rfl (rfl) ?_
        rw [hE, zEx_no Lr hob]
        exact ⟨_, rfl, trivial, kF28, _, hM3⟩
      · refine zr_iconst (v := 0) dX10_execute_132 (by decide) ?_
        refine zr_goto (tgt := 137) dX10_execute_133 (by decide) ?_
        refine zr_iadd dX10_execute_137 ?_
        refine zr_eqi (x' := 0) (by decide) ?_
        refine zr_ireturn dX10_execute_138 rfl (rfl) ?_
        rw [hE, zEx_no Lr hob]
        exact ⟨_, rfl, trivial, kF28, _, hM3⟩

set_option maxHeartbeats 400000 in
set_option maxRecDepth 100000 in
theorem qX10_execute {X : zX} (hX : X.1.stackTraces = false) {σ : zS} {y : Nat} {tm cd dn : Int32} {K : zDk} {A S : zDk} {m : Nat} {U : Nat → zDk} {n : Nat} {T : Nat → Int32} {ll : Nat} {ln : Nat → Int32} {hs kf ld dt dc : Int32} {at_ : Nat} {L : zTL} (hM : zMo y 0 tm cd dn K A S m U n T ll ln hs kf ld dt dc σ) (gA : zGd A) (wU : ∀ t, t < m → zDw (U t)) (hP : zps T n 61 0 [] = (true, at_, L)) : zMet X mX10_execute yX10_execute 7 0 0 [.ref y] σ (zXM σ y A S m U T ll ln hs kf ld dt dc L (zEx A 0 L)) := by
  refine zMet_of (ls := [some (.ref y), none, none, none]) rfl (by decide +kernel) rfl (fun h => by cases h) hX (Nat.le_of_ble_eq_true rfl) rfl ?_
  obtain ⟨F, g, kp, sv, bf, ip, sg, td, h0, hf, h1, h2, h3, h4, h5, h6, h11, hWa, hC, hX9, hOt, gr, gS, gK, hm8, gU, hn60, hT, hll, hln⟩ := id hM
  obtain ⟨f4, f5, f6, f7, f8, f9, f10, f11, f13, f14, f16, f27⟩ := id hf
  obtain ⟨z1, z2⟩ := zps_len (f := T) (n := n) hn60 61 0 [] (Nat.zero_le _) (Nat.le_refl _)
  rw [hP] at z1 z2
  have hok : ∀ q ∈ L, zLok q := by
    have z := zps_ok (f := T) (n := n) 61 0 [] (Nat.zero_le _) (fun q hq => by cases hq)
    rw [hP] at z; exact z
  have hL12 : L.length ≤ 12 := z2
  have at60 : at_ ≤ n := z1
  refine zr_aload_n dX10_execute_0 rfl ?_
  have eP := (zps_congr hT 61 0 []).trans hP
  refine zr_callVi [] dX10_execute_1 vX10_296 (qX10_isText hX (td := td) h0 h5 f13 hn60 h11) h0 (by decide) (by decide) (by decide) rfl rfl (Nat.le_of_ble_eq_true rfl) (by decide) rfl (fun r1 s1 h_ => ?_)
  rw [eP] at h_
  obtain ⟨rfl, F1, k0, td1, k11, hrow⟩ := h_
  have kh1 : s1.1 (y + 1) = .inl (0, 82, .inl g) := zFr.get F1 (by omega) h1
  have kh2 : s1.1 (y + 2) = .inl (0, 656, .inl kp) := zFr.get F1 (by omega) h2
  have kh3 : s1.1 (y + 3) = .inl (0, 82, .inl sv) := zFr.get F1 (by omega) h3
  have kh4 : s1.1 (y + 4) = .inl (0, 82, .inl bf) := zFr.get F1 (by omega) h4
  have kh5 : s1.1 (y + 5) = .inl (0, 60, .inl ip) := zFr.get F1 (by omega) h5
  have kh6 : s1.1 (y + 6) = .inl (1, 400, .inl sg) := zFr.get F1 (by omega) h6
  have kR7 := zWa.fr hWa F1 (by intro q a b c; omega)
  have kR8 := zCy.fr hC F1 (by intro q a b c; omega)
  have kR9 := zXa.fr hX9 F1 (by intro q a b c; omega)
  have kR10 := zOa.fr hOt F1 (by intro q a b c; omega)
  have kF11 := zFr.tr zFr.rf (P := zMr y) F1 (by intro q hq; (try unfold zMq at hq); unfold zMr; omega)
  refine zr_istore_n (ls' := [some (.ref y), some (.int 1), none, none]) dX10_execute_4 rfl (by decide) rfl ?_
  refine zr_iload_n dX10_execute_5 rfl ?_
  refine zr_if_ne (tgt := 17) dX10_execute_6 (by decide) (fun c_6 => ?_) (fun c_6 => absurd c_6 (by decide))
  refine zr_aload_n dX10_execute_17 rfl ?_
  refine zr_iconst (v := 0) dX10_execute_18 (by decide) ?_
  refine zr_putM (v := 0) dX10_execute_19 pX10_225 k0 (rfl) (rfl) (Nat.le_of_ble_eq_true rfl) (zms_13 _ _ _) ?_
  refine zr_sig (fun ks12 e_ks12 => ?_)
  have kh13 : ks12.1 (y + 1) = .inl (0, 82, .inl g) := by rw [e_ks12, zup_ne _ _ (by omega)]; exact kh1
  have kh14 : ks12.1 (y + 2) = .inl (0, 656, .inl kp) := by rw [e_ks12, zup_ne _ _ (by omega)]; exact kh2
  have kh15 : ks12.1 (y + 3) = .inl (0, 82, .inl sv) := by rw [e_ks12, zup_ne _ _ (by omega)]; exact kh3
  have kh16 : ks12.1 (y + 4) = .inl (0, 82, .inl bf) := by rw [e_ks12, zup_ne _ _ (by omega)]; exact kh4
  have kh17 : ks12.1 (y + 5) = .inl (0, 60, .inl ip) := by rw [e_ks12, zup_ne _ _ (by omega)]; exact kh5
  have kh18 : ks12.1 (y + 6) = .inl (1, 400, .inl sg) := by rw [e_ks12, zup_ne _ _ (by omega)]; exact kh6
  have kh19 : ks12.1 y = zmO y (upd (upd (upd F 13 0) 25 (nI at_)) 27 (nI (L.length))) := by rw [e_ks12]; exact zup_at _ _ _
  have kh20 : ks12.1 (y + 11) = .inl (0, 93, .inl td1) := by rw [e_ks12, zup_ne _ _ (by omega)]; exact k11
  have kF21 := zFr.put kF11 e_ks12 (by unfold zMr; omega)
  have kR22 : zWa y ks12 := zWa.fr kR7 (zFr.put (P := fun q => q = y) zFr.rf e_ks12 rfl) (by intro q h1 h2 h3; (try simp only [zIn, zJf] at h3); omega)
  have kR23 : zCy y ks12 := zCy.fr kR8 (zFr.put (P := fun q => q = y) zFr.rf e_ks12 rfl) (by intro q h1 h2 h3; (try simp only [zIn, zJf] at h3); omega)
  have kR24 : zXa y ks12 := zXa.fr kR9 (zFr.put (P := fun q => q = y) zFr.rf e_ks12 rfl) (by intro q h1 h2 h3; (try simp only [zIn, zJf] at h3); omega)
  have kR25 : zOa y ks12 := zOa.fr kR10 (zFr.put (P := fun q => q = y) zFr.rf e_ks12 rfl) (by intro q h1 h2 h3; (try simp only [zIn, zJf] at h3); omega)
  refine zr_aload_n dX10_execute_22 rfl ?_
  refine zr_iload_n dX10_execute_23 rfl ?_
  refine zr_if_eq (tgt := 31) dX10_execute_24 (by decide) (fun c_24 => absurd c_24 (by decide)) (fun c_24 => ?_)
  refine zr_iconst (v := 0) dX10_execute_27 (by decide) ?_
  refine zr_goto (tgt := 32) dX10_execute_28 (by decide) ?_
  refine zr_callVi [] dX10_execute_32 vX10_135 (qX10_fails hX (p := 0) kh19) kh19 (by decide) (by decide) (by decide) rfl rfl (Nat.le_of_ble_eq_true rfl) (by decide) rfl (fun kr26 s_kr26 h_kr26 => ?_)
  obtain ⟨e_kr26, F_kr26, g0_kr26⟩ := h_kr26
  have kh27 : s_kr26.1 (y + 1) = .inl (0, 82, .inl g) := zFr.get F_kr26 (by omega) kh13
  have kh28 : s_kr26.1 (y + 2) = .inl (0, 656, .inl kp) := zFr.get F_kr26 (by omega) kh14
  have kh29 : s_kr26.1 (y + 3) = .inl (0, 82, .inl sv) := zFr.get F_kr26 (by omega) kh15
  have kh30 : s_kr26.1 (y + 4) = .inl (0, 82, .inl bf) := zFr.get F_kr26 (by omega) kh16
  have kh31 : s_kr26.1 (y + 5) = .inl (0, 60, .inl ip) := zFr.get F_kr26 (by omega) kh17
  have kh32 : s_kr26.1 (y + 6) = .inl (1, 400, .inl sg) := zFr.get F_kr26 (by omega) kh18
  have kh33 : s_kr26.1 (y + 11) = .inl (0, 93, .inl td1) := zFr.get F_kr26 (by omega) kh20
  have kR34 : zWa y s_kr26 := zWa.fr kR22 F_kr26 (by intro q h1 h2 h3; (try simp only [zIn, zJf] at h3); omega)
  have kR35 : zCy y s_kr26 := zCy.fr kR23 F_kr26 (by intro q h1 h2 h3; (try simp only [zIn, zJf] at h3); omega)
  have kR36 : zXa y s_kr26 := zXa.fr kR24 F_kr26 (by intro q h1 h2 h3; (try simp only [zIn, zJf] at h3); omega)
  have kR37 : zOa y s_kr26 := zOa.fr kR25 F_kr26 (by intro q h1 h2 h3; (try simp only [zIn, zJf] at h3); omega)
  have kF38 := zFr.tr kF21 F_kr26 (by intro q hq; (try unfold zMq at hq); unfold zMr; omega)
  replace e_kr26 := e_kr26.trans (if_pos (by decide) : (_ : Int32) = 0)
  obtain rfl := e_kr26.symm
  refine zr_if_eq (tgt := 40) dX10_execute_35 (by decide) (fun c_35 => ?_) (fun c_35 => absurd (by decide) c_35)
  refine zr_aload_n dX10_execute_40 rfl ?_
  refine zr_getM (v := .ref (y + 1)) dX10_execute_41 fX10_7 g0_kr26 rfl ?_
  refine zr_iconst (v := 0) dX10_execute_44 (by decide) ?_
  refine zr_aload_n dX10_execute_45 rfl ?_
  refine zr_getM (v := .ref (y + 4)) dX10_execute_46 fX10_19 g0_kr26 rfl ?_
  refine zr_iconst (v := 0) dX10_execute_49 (by decide) ?_
  refine zr_callSv [] dX10_execute_50 vX10_71 (qX10_copies hX (p := 0) (q := 0) kh27 (by omega) (by omega) (by omega) (by omega) (by omega) kh30) (by decide) (by decide) (by decide) rfl rfl (Nat.le_of_ble_eq_true rfl) rfl (fun s_kr39 h_kr39 => ?_)
  obtain ⟨F_kr39, g0_kr39⟩ := h_kr39
  have kh40 : s_kr39.1 (y + 1) = .inl (0, 82, .inl g) := zFr.get F_kr39 (by omega) kh27
  have kh41 : s_kr39.1 (y + 2) = .inl (0, 656, .inl kp) := zFr.get F_kr39 (by omega) kh28
  have kh42 : s_kr39.1 (y + 3) = .inl (0, 82, .inl sv) := zFr.get F_kr39 (by omega) kh29
  have kh43 : s_kr39.1 (y + 5) = .inl (0, 60, .inl ip) := zFr.get F_kr39 (by omega) kh31
  have kh44 : s_kr39.1 (y + 6) = .inl (1, 400, .inl sg) := zFr.get F_kr39 (by omega) kh32
  have kh45 : s_kr39.1 y = zmO y (upd (upd (upd (upd (upd F 7 0) 8 0) 13 0) 25 (nI at_)) 27 (nI (L.length))) := zFr.get F_kr39 (by omega) g0_kr26
  have kh46 : s_kr39.1 (y + 11) = .inl (0, 93, .inl td1) := zFr.get F_kr39 (by omega) kh33
  have kR47 : zWa y s_kr39 := zWa.fr kR34 F_kr39 (by intro q h1 h2 h3; (try simp only [zIn, zJf] at h3); omega)
  have kR48 : zCy y s_kr39 := zCy.fr kR35 F_kr39 (by intro q h1 h2 h3; (try simp only [zIn, zJf] at h3); omega)
  have kR49 : zXa y s_kr39 := zXa.fr kR36 F_kr39 (by intro q h1 h2 h3; (try simp only [zIn, zJf] at h3); omega)
  have kR50 : zOa y s_kr39 := zOa.fr kR37 F_kr39 (by intro q h1 h2 h3; (try simp only [zIn, zJf] at h3); omega)
  have kF51 := zFr.tr kF38 F_kr39 (by intro q hq; (try unfold zMq at hq); unfold zMr; omega)
  refine zr_aload_n dX10_execute_53 rfl ?_
  refine zr_iconst (v := 1) dX10_execute_54 (by decide) ?_
  refine zr_putM (v := 1) dX10_execute_55 pX10_65 kh45 (rfl) (rfl) (Nat.le_of_ble_eq_true rfl) (zms_6 _ _ _) ?_
  refine zr_sig (fun ks52 e_ks52 => ?_)
  have kh53 : ks52.1 (y + 1) = .inl (0, 82, .inl g) := by rw [e_ks52, zup_ne _ _ (by omega)]; exact kh40
  have kh54 : ks52.1 (y + 2) = .inl (0, 656, .inl kp) := by rw [e_ks52, zup_ne _ _ (by omega)]; exact kh41
  have kh55 : ks52.1 (y + 3) = .inl (0, 82, .inl sv) := by rw [e_ks52, zup_ne _ _ (by omega)]; exact kh42
  have kh56 : ks52.1 (y + 4) = .inl (0, 82, .inl (zcpn g bf 0 0 82)) := by rw [e_ks52, zup_ne _ _ (by omega)]; exact g0_kr39
  have kh57 : ks52.1 (y + 5) = .inl (0, 60, .inl ip) := by rw [e_ks52, zup_ne _ _ (by omega)]; exact kh43
  have kh58 : ks52.1 (y + 6) = .inl (1, 400, .inl sg) := by rw [e_ks52, zup_ne _ _ (by omega)]; exact kh44
  have kh59 : ks52.1 y = zmO y (upd (upd (upd (upd (upd (upd F 6 1) 7 0) 8 0) 13 0) 25 (nI at_)) 27 (nI (L.length))) := by rw [e_ks52]; exact zup_at _ _ _
  have kh60 : ks52.1 (y + 11) = .inl (0, 93, .inl td1) := by rw [e_ks52, zup_ne _ _ (by omega)]; exact kh46
  have kF61 := zFr.put kF51 e_ks52 (by unfold zMr; omega)
  have kR62 : zWa y ks52 := zWa.fr kR47 (zFr.put (P := fun q => q = y) zFr.rf e_ks52 rfl) (by intro q h1 h2 h3; (try simp only [zIn, zJf] at h3); omega)
  have kR63 : zCy y ks52 := zCy.fr kR48 (zFr.put (P := fun q => q = y) zFr.rf e_ks52 rfl) (by intro q h1 h2 h3; (try simp only [zIn, zJf] at h3); omega)
  have kR64 : zXa y ks52 := zXa.fr kR49 (zFr.put (P := fun q => q = y) zFr.rf e_ks52 rfl) (by intro q h1 h2 h3; (try simp only [zIn, zJf] at h3); omega)
  have kR65 : zOa y ks52 := zOa.fr kR50 (zFr.put (P := fun q => q = y) zFr.rf e_ks52 rfl) (by intro q h1 h2 h3; (try simp only [zIn, zJf] at h3); omega)
  refine zr_iconst (v := 0) dX10_execute_58 (by decide) ?_
  refine zr_istore_n (ls' := [some (.ref y), some (.int 1), some (.int 0), none]) dX10_execute_59 rfl (by decide) rfl ?_
  refine zr_iconst (v := 0) dX10_execute_60 (by decide) ?_
  refine zr_istore_n (ls' := [some (.ref y), some (.int 1), some (.int 0), some (.int 0)]) dX10_execute_61 rfl (by decide) rfl ?_
  have hM2 : zMo y 1 (nI L.length) 0 0 A A S m U 0 T ll ln hs kf ld dt dc ks52 := ⟨_, _, _, _, _, _, _, _, kh59, ⟨f4, f5, rfl, rfl, rfl, f9, f10, f11, rfl, f14, f16, rfl⟩, kh53, kh54, kh55, kh56, kh57, kh58, kh60, kR62, kR63, kR64, kR65, gr, gS, (zGr.cpn gr gA.1 (fun k hk => by rw [Nat.zero_add])), hm8, gU, (by omega), (fun k hk => absurd hk (by omega)), hll, hln⟩
  exact l_xm (n := n) hX gA wU hok hL12 hrow L 0 A _ _ _ rfl (Nat.zero_le _) rfl gA kF61 hM2 kh60

set_option maxHeartbeats 400000 in
set_option maxRecDepth 100000 in
theorem qX10_executeF {X : zX} (hX : X.1.stackTraces = false) {σ : zS} {y : Nat} {tm cd dn : Int32} {K : zDk} {A S : zDk} {m : Nat} {U : Nat → zDk} {n : Nat} {T : Nat → Int32} {ll : Nat} {ln : Nat → Int32} {hs kf ld dt dc : Int32} {at_ : Nat} {L : zTL} (hM : zMo y 0 tm cd dn K A S m U n T ll ln hs kf ld dt dc σ) (gA : zGd A) (wU : ∀ t, t < m → zDw (U t)) (hP : zps T n 61 0 [] = (false, at_, L)) : zMet X mX10_execute yX10_execute 7 0 0 [.ref y] σ (zI (fun y_ s => True ∧ zFr σ s (zMr y) ∧ ∃ tm, zMo y 0 tm 1 0 K A S m U 0 T ll ln hs (nI at_) ld dt dc s)) := by
  refine zMet_of (ls := [some (.ref y), none, none, none]) rfl (by decide +kernel) rfl (fun h => by cases h) hX (Nat.le_of_ble_eq_true rfl) rfl ?_
  obtain ⟨F, g, kp, sv, bf, ip, sg, td, h0, hf, h1, h2, h3, h4, h5, h6, h11, hWa, hC, hX9, hOt, gr, gS, gK, hm8, gU, hn60, hT, hll, hln⟩ := id hM
  obtain ⟨f4, f5, f6, f7, f8, f9, f10, f11, f13, f14, f16, f27⟩ := id hf
  obtain ⟨z1, z2⟩ := zps_len (f := T) (n := n) hn60 61 0 [] (Nat.zero_le _) (Nat.le_refl _)
  rw [hP] at z1 z2
  have hok : ∀ q ∈ L, zLok q := by
    have z := zps_ok (f := T) (n := n) 61 0 [] (Nat.zero_le _) (fun q hq => by cases hq)
    rw [hP] at z; exact z
  have hL12 : L.length ≤ 12 := z2
  have at60 : at_ ≤ n := z1
  refine zr_aload_n dX10_execute_0 rfl ?_
  have eP := (zps_congr hT 61 0 []).trans hP
  refine zr_callVi [] dX10_execute_1 vX10_296 (qX10_isText hX (td := td) h0 h5 f13 hn60 h11) h0 (by decide) (by decide) (by decide) rfl rfl (Nat.le_of_ble_eq_true rfl) (by decide) rfl (fun r1 s1 h_ => ?_)
  rw [eP] at h_
  obtain ⟨rfl, F1, k0, td1, k11, hrow⟩ := h_
  have kh1 : s1.1 (y + 1) = .inl (0, 82, .inl g) := zFr.get F1 (by omega) h1
  have kh2 : s1.1 (y + 2) = .inl (0, 656, .inl kp) := zFr.get F1 (by omega) h2
  have kh3 : s1.1 (y + 3) = .inl (0, 82, .inl sv) := zFr.get F1 (by omega) h3
  have kh4 : s1.1 (y + 4) = .inl (0, 82, .inl bf) := zFr.get F1 (by omega) h4
  have kh5 : s1.1 (y + 5) = .inl (0, 60, .inl ip) := zFr.get F1 (by omega) h5
  have kh6 : s1.1 (y + 6) = .inl (1, 400, .inl sg) := zFr.get F1 (by omega) h6
  have kR7 := zWa.fr hWa F1 (by intro q a b c; omega)
  have kR8 := zCy.fr hC F1 (by intro q a b c; omega)
  have kR9 := zXa.fr hX9 F1 (by intro q a b c; omega)
  have kR10 := zOa.fr hOt F1 (by intro q a b c; omega)
  have kF11 := zFr.tr zFr.rf (P := zMr y) F1 (by intro q hq; (try unfold zMq at hq); unfold zMr; omega)
  refine zr_istore_n (ls' := [some (.ref y), some (.int 0), none, none]) dX10_execute_4 rfl (by decide) rfl ?_
  refine zr_iload_n dX10_execute_5 rfl ?_
  refine zr_if_ne (tgt := 17) dX10_execute_6 (by decide) (fun c_6 => absurd (by decide) c_6) (fun c_6 => ?_)
  refine zr_aload_n dX10_execute_9 rfl ?_
  refine zr_aload_n dX10_execute_10 rfl ?_
  refine zr_getM (v := .int (nI at_)) dX10_execute_11 fX10_228 k0 rfl ?_
  refine zr_putM (v := nI at_) dX10_execute_14 pX10_25 k0 (rfl) (rfl) (Nat.le_of_ble_eq_true rfl) (zms_14 _ _ _) ?_
  refine zr_sig (fun ks12 e_ks12 => ?_)
  have kh13 : ks12.1 (y + 1) = .inl (0, 82, .inl g) := by rw [e_ks12, zup_ne _ _ (by omega)]; exact kh1
  have kh14 : ks12.1 (y + 2) = .inl (0, 656, .inl kp) := by rw [e_ks12, zup_ne _ _ (by omega)]; exact kh2
  have kh15 : ks12.1 (y + 3) = .inl (0, 82, .inl sv) := by rw [e_ks12, zup_ne _ _ (by omega)]; exact kh3
  have kh16 : ks12.1 (y + 4) = .inl (0, 82, .inl bf) := by rw [e_ks12, zup_ne _ _ (by omega)]; exact kh4
  have kh17 : ks12.1 (y + 5) = .inl (0, 60, .inl ip) := by rw [e_ks12, zup_ne _ _ (by omega)]; exact kh5
  have kh18 : ks12.1 (y + 6) = .inl (1, 400, .inl sg) := by rw [e_ks12, zup_ne _ _ (by omega)]; exact kh6
  have kh19 : ks12.1 y = zmO y (upd (upd (upd F 14 (nI at_)) 25 (nI at_)) 27 (nI (L.length))) := by rw [e_ks12]; exact zup_at _ _ _
  have kh20 : ks12.1 (y + 11) = .inl (0, 93, .inl td1) := by rw [e_ks12, zup_ne _ _ (by omega)]; exact k11
  have kF21 := zFr.put kF11 e_ks12 (by unfold zMr; omega)
  have kR22 : zWa y ks12 := zWa.fr kR7 (zFr.put (P := fun q => q = y) zFr.rf e_ks12 rfl) (by intro q h1 h2 h3; (try simp only [zIn, zJf] at h3); omega)
  have kR23 : zCy y ks12 := zCy.fr kR8 (zFr.put (P := fun q => q = y) zFr.rf e_ks12 rfl) (by intro q h1 h2 h3; (try simp only [zIn, zJf] at h3); omega)
  have kR24 : zXa y ks12 := zXa.fr kR9 (zFr.put (P := fun q => q = y) zFr.rf e_ks12 rfl) (by intro q h1 h2 h3; (try simp only [zIn, zJf] at h3); omega)
  have kR25 : zOa y ks12 := zOa.fr kR10 (zFr.put (P := fun q => q = y) zFr.rf e_ks12 rfl) (by intro q h1 h2 h3; (try simp only [zIn, zJf] at h3); omega)
  refine zr_aload_n dX10_execute_17 rfl ?_
  refine zr_iconst (v := 0) dX10_execute_18 (by decide) ?_
  refine zr_putM (v := 0) dX10_execute_19 pX10_225 kh19 (rfl) (rfl) (Nat.le_of_ble_eq_true rfl) (zms_13 _ _ _) ?_
  refine zr_sig (fun ks26 e_ks26 => ?_)
  have kh27 : ks26.1 (y + 1) = .inl (0, 82, .inl g) := by rw [e_ks26, zup_ne _ _ (by omega)]; exact kh13
  have kh28 : ks26.1 (y + 2) = .inl (0, 656, .inl kp) := by rw [e_ks26, zup_ne _ _ (by omega)]; exact kh14
  have kh29 : ks26.1 (y + 3) = .inl (0, 82, .inl sv) := by rw [e_ks26, zup_ne _ _ (by omega)]; exact kh15
  have kh30 : ks26.1 (y + 4) = .inl (0, 82, .inl bf) := by rw [e_ks26, zup_ne _ _ (by omega)]; exact kh16
  have kh31 : ks26.1 (y + 5) = .inl (0, 60, .inl ip) := by rw [e_ks26, zup_ne _ _ (by omega)]; exact kh17
  have kh32 : ks26.1 (y + 6) = .inl (1, 400, .inl sg) := by rw [e_ks26, zup_ne _ _ (by omega)]; exact kh18
  have kh33 : ks26.1 y = zmO y (upd (upd (upd (upd F 13 0) 14 (nI at_)) 25 (nI at_)) 27 (nI (L.length))) := by rw [e_ks26]; exact zup_at _ _ _
  have kh34 : ks26.1 (y + 11) = .inl (0, 93, .inl td1) := by rw [e_ks26, zup_ne _ _ (by omega)]; exact kh20
  have kF35 := zFr.put kF21 e_ks26 (by unfold zMr; omega)
  have kR36 : zWa y ks26 := zWa.fr kR22 (zFr.put (P := fun q => q = y) zFr.rf e_ks26 rfl) (by intro q h1 h2 h3; (try simp only [zIn, zJf] at h3); omega)
  have kR37 : zCy y ks26 := zCy.fr kR23 (zFr.put (P := fun q => q = y) zFr.rf e_ks26 rfl) (by intro q h1 h2 h3; (try simp only [zIn, zJf] at h3); omega)
  have kR38 : zXa y ks26 := zXa.fr kR24 (zFr.put (P := fun q => q = y) zFr.rf e_ks26 rfl) (by intro q h1 h2 h3; (try simp only [zIn, zJf] at h3); omega)
  have kR39 : zOa y ks26 := zOa.fr kR25 (zFr.put (P := fun q => q = y) zFr.rf e_ks26 rfl) (by intro q h1 h2 h3; (try simp only [zIn, zJf] at h3); omega)
  refine zr_aload_n dX10_execute_22 rfl ?_
  refine zr_iload_n dX10_execute_23 rfl ?_
  refine zr_if_eq (tgt := 31) dX10_execute_24 (by decide) (fun c_24 => ?_) (fun c_24 => absurd (by decide) c_24)
  refine zr_iconst (v := 1) dX10_execute_31 (by decide) ?_
  refine zr_callVi [] dX10_execute_32 vX10_135 (qX10_fails hX (p := 1) kh33) kh33 (by decide) (by decide) (by decide) rfl rfl (Nat.le_of_ble_eq_true rfl) (by decide) rfl (fun kr40 s_kr40 h_kr40 => ?_)
  obtain ⟨e_kr40, F_kr40, g0_kr40⟩ := h_kr40
  have kh41 : s_kr40.1 (y + 1) = .inl (0, 82, .inl g) := zFr.get F_kr40 (by omega) kh27
  have kh42 : s_kr40.1 (y + 2) = .inl (0, 656, .inl kp) := zFr.get F_kr40 (by omega) kh28
  have kh43 : s_kr40.1 (y + 3) = .inl (0, 82, .inl sv) := zFr.get F_kr40 (by omega) kh29
  have kh44 : s_kr40.1 (y + 4) = .inl (0, 82, .inl bf) := zFr.get F_kr40 (by omega) kh30
  have kh45 : s_kr40.1 (y + 5) = .inl (0, 60, .inl ip) := zFr.get F_kr40 (by omega) kh31
  have kh46 : s_kr40.1 (y + 6) = .inl (1, 400, .inl sg) := zFr.get F_kr40 (by omega) kh32
  have kh47 : s_kr40.1 (y + 11) = .inl (0, 93, .inl td1) := zFr.get F_kr40 (by omega) kh34
  have kR48 : zWa y s_kr40 := zWa.fr kR36 F_kr40 (by intro q h1 h2 h3; (try simp only [zIn, zJf] at h3); omega)
  have kR49 : zCy y s_kr40 := zCy.fr kR37 F_kr40 (by intro q h1 h2 h3; (try simp only [zIn, zJf] at h3); omega)
  have kR50 : zXa y s_kr40 := zXa.fr kR38 F_kr40 (by intro q h1 h2 h3; (try simp only [zIn, zJf] at h3); omega)
  have kR51 : zOa y s_kr40 := zOa.fr kR39 F_kr40 (by intro q h1 h2 h3; (try simp only [zIn, zJf] at h3); omega)
  have kF52 := zFr.tr kF35 F_kr40 (by intro q hq; (try unfold zMq at hq); unfold zMr; omega)
  replace e_kr40 := e_kr40.trans (if_neg (by decide) : (_ : Int32) = 1)
  obtain rfl := e_kr40.symm
  refine zr_if_eq (tgt := 40) dX10_execute_35 (by decide) (fun c_35 => absurd c_35 (by decide)) (fun c_35 => ?_)
  refine zr_iconst (v := 0) dX10_execute_38 (by decide) ?_
  exact zr_ireturn dX10_execute_39 rfl (rfl) (⟨_, rfl, trivial, kF52, _, ⟨_, _, _, _, _, _, _, _, g0_kr40, ⟨f4, f5, f6, rfl, rfl, f9, f10, f11, rfl, rfl, f16, rfl⟩, kh41, kh42, kh43, kh44, kh45, kh46, kh47, kR48, kR49, kR50, kR51, gr, gS, gK, hm8, gU, (by omega), (fun k hk => absurd hk (by omega)), hll, hln⟩⟩)

