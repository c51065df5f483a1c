/-! the reference between the calls: its numbers; its rows; what they stand for -/
def zMq (y q : Nat) : Prop := y ≤ q ∧ q < y + 11
def zMf (F : Nat → Int32) (w tm cd dn : Int32) (m n ll : Nat) (hs kf ld dt dc : Int32) : Prop := F 4 = hs ∧ F 5 = nI m ∧ F 6 = w ∧ F 7 = dn ∧ F 8 = cd ∧ F 9 = ld ∧ F 10 = dt ∧ F 11 = dc ∧ F 13 = nI n ∧ F 14 = kf ∧ F 16 = nI ll ∧ F 27 = tm
def zMo (y : Nat) (w tm cd dn : Int32) (K A S : zDk) (m : Nat) (U : Nat → zDk) (n : Nat) (T : Nat → Int32) (ll : Nat) (ln : Nat → Int32) (hs kf ld dt dc : Int32) (σ : zS) : Prop := ∃ (F g kp sv bf ip sg td : Nat → Int32),
  σ.1 y = zmO y F ∧ zMf F w tm cd dn m n ll hs kf ld dt dc ∧ σ.1 (y + 1) = .inl (0, 82, .inl g) ∧ σ.1 (y + 2) = .inl (0, 656, .inl kp) ∧ σ.1 (y + 3) = .inl (0, 82, .inl sv) ∧ σ.1 (y + 4) = .inl (0, 82, .inl bf) ∧ σ.1 (y + 5) = .inl (0, 60, .inl ip) ∧ σ.1 (y + 6) = .inl (1, 400, .inl sg) ∧ σ.1 (y + 11) = .inl (0, 93, .inl td) ∧ zWa y σ ∧ zCy y σ ∧ zXa y σ ∧ zOa y σ ∧
  zGr A g ∧ zGr S sv ∧ zGr K bf ∧ m ≤ 8 ∧ (∀ t, t < m → zGr (U t) (fun k => kp (82 * (m - 1 - t) + k))) ∧ n ≤ 60 ∧ (∀ k, k < n → ip k = T k) ∧ ll ≤ 400 ∧ ∀ k, k < ll → sg k = ln k
theorem zMo.fr {y : Nat} {w tm cd dn : Int32} {K : zDk} {A S : zDk} {m : Nat} {U : Nat → zDk} {n : Nat} {T : Nat → Int32} {ll : Nat} {ln : Nat → Int32} {hs kf ld dt dc : Int32} {σ s : zS} {P : Nat → Prop} (h : zMo y w tm cd dn K A S m U n T ll ln hs kf ld dt dc σ) (F : zFr σ s P) (hp : ∀ q, y ≤ q → q < y + 12 → ¬ P q) : zMo y w tm cd dn K A S m U n T ll ln hs kf ld dt dc s := by
  obtain ⟨F0, g, kp, sv, bf, ip, sg, td, h0, hf, h1, h2, h3, h4, h5, h6, h11, hWa, hC, hX9, hO, h⟩ := h
  exact ⟨F0, g, kp, sv, bf, ip, sg, td, F.get (hp _ (by omega) (by omega)) h0, hf, F.get (hp _ (by omega) (by omega)) h1, F.get (hp _ (by omega) (by omega)) h2, F.get (hp _ (by omega) (by omega)) h3, F.get (hp _ (by omega) (by omega)) h4, F.get (hp _ (by omega) (by omega)) h5, F.get (hp _ (by omega) (by omega)) h6, F.get (hp _ (by omega) (by omega)) h11, hWa.fr F (fun q a b => hp q (by omega) (by omega)), hC.fr F (fun q a b => hp q (by omega) (by omega)), hX9.fr F (fun q a b => hp q (by omega) (by omega)), hO.fr F (fun q a b => hp q (by omega) (by omega)), h⟩
theorem zMo.obj {y : Nat} {w tm cd dn : Int32} {K : zDk} {A S : zDk} {m : Nat} {U : Nat → zDk} {n : Nat} {T : Nat → Int32} {ll : Nat} {ln : Nat → Int32} {hs kf ld dt dc : Int32} {σ : zS} (h : zMo y w tm cd dn K A S m U n T ll ln hs kf ld dt dc σ) : ∃ fs, σ.1 y = .inr (8, fs) := by
  obtain ⟨F0, g, kp, sv, bf, ip, sg, td, h0, -⟩ := h
  exact ⟨_, h0⟩
set_option maxHeartbeats 400000 in
set_option maxRecDepth 100000 in
theorem qX10_caseCount {X : zX} (hX : X.1.stackTraces = false) {σ : zS} {y : Nat} {w tm cd dn : Int32} {K : zDk} {A S : zDk} {m : Nat} {U : Nat → zDk} {n : Nat} {T : Nat → Int32} {ll : Nat} {ln : Nat → Int32} {hs kf ld dt dc : Int32} (hM : zMo y w tm cd dn K A S m U n T ll ln hs kf ld dt dc σ) (gA : zGd A)  : zMet X mX10_caseCount yX10_caseCount 0 0 0 [.ref y] σ (zI (fun y_ s => y_ = nI (kC A) ∧ zFr σ s (zMq y) ∧ zMo y w tm 0 dn K A S m U n T ll ln hs kf ld dt dc s)) := by
  refine zMet_of (ls := [some (.ref y)]) rfl (by decide +kernel) rfl (fun h => by cases h) hX (Nat.le_of_ble_eq_true rfl) rfl ?_
  obtain ⟨F, g, kp, sv, bf, ip, sg, td, h0, hf, h1, h2, h3, h4, h5, h6, h11, hWa, hC, hX9, hOt, gr, gS, gK, hm8, gU, hn60, hT, hll, hln⟩ := id hM
  obtain ⟨f4, f5, f6, f7, f8, f9, f10, f11, f13, f14, f16, f27⟩ := id hf
  have hA := gA.1
  obtain ⟨r0, r1, rc, rp⟩ := id gr
  obtain ⟨hC8, hP8, hW⟩ := id hA
  refine zr_aload_n dX10_caseCount_0 rfl ?_
  refine zr_iconst (v := 0) dX10_caseCount_1 (by decide) ?_
  refine zr_putM (v := 0) dX10_caseCount_2 pX10_49 h0 (rfl) (rfl) (Nat.le_of_ble_eq_true rfl) (zms_8 _ _ _) ?_
  refine zr_sig (fun ks1 e_ks1 => ?_)
  have kh2 : ks1.1 y = zmO y (upd F 8 0) := by rw [e_ks1]; exact zup_at _ _ _
  have kh3 : ks1.1 (y + 1) = .inl (0, 82, .inl g) := by rw [e_ks1, zup_ne _ _ (by omega)]; exact h1
  have kh4 : ks1.1 (y + 2) = .inl (0, 656, .inl kp) := by rw [e_ks1, zup_ne _ _ (by omega)]; exact h2
  have kh5 : ks1.1 (y + 3) = .inl (0, 82, .inl sv) := by rw [e_ks1, zup_ne _ _ (by omega)]; exact h3
  have kh6 : ks1.1 (y + 4) = .inl (0, 82, .inl bf) := by rw [e_ks1, zup_ne _ _ (by omega)]; exact h4
  have kh7 : ks1.1 (y + 5) = .inl (0, 60, .inl ip) := by rw [e_ks1, zup_ne _ _ (by omega)]; exact h5
  have kh8 : ks1.1 (y + 6) = .inl (1, 400, .inl sg) := by rw [e_ks1, zup_ne _ _ (by omega)]; exact h6
  have kh9 : ks1.1 (y + 11) = .inl (0, 93, .inl td) := by rw [e_ks1, zup_ne _ _ (by omega)]; exact h11
  have kF10 := zFr.put zFr.rf (P := zMq y) e_ks1 (by unfold zMq; omega)
  have kR11 : zWa y ks1 := zWa.fr hWa (zFr.put (P := fun q => q = y) zFr.rf e_ks1 rfl) (by intro q h1 h2 h3; (try simp only [zIn, zJf] at h3); omega)
  have kR12 : zCy y ks1 := zCy.fr hC (zFr.put (P := fun q => q = y) zFr.rf e_ks1 rfl) (by intro q h1 h2 h3; (try simp only [zIn, zJf] at h3); omega)
  have kR13 : zXa y ks1 := zXa.fr hX9 (zFr.put (P := fun q => q = y) zFr.rf e_ks1 rfl) (by intro q h1 h2 h3; (try simp only [zIn, zJf] at h3); omega)
  have kR14 : zOa y ks1 := zOa.fr hOt (zFr.put (P := fun q => q = y) zFr.rf e_ks1 rfl) (by intro q h1 h2 h3; (try simp only [zIn, zJf] at h3); omega)
  refine zr_aload_n dX10_caseCount_5 rfl ?_
  refine zr_getM (v := .ref (y + 1)) dX10_caseCount_6 fX10_7 kh2 rfl ?_
  refine zr_iconst (v := 0) dX10_caseCount_9 (by decide) ?_
  refine zr_iaload dX10_caseCount_10 kh3 (vp_in_nI (n := 0) (by omega) (by omega)) ?_
  rw [show (0 : Int32).toNatClampNeg = 0 from by decide]
  refine zr_eqi (x' := nI (kC A)) (r0) ?_
  exact zr_ireturn dX10_caseCount_11 rfl (rfl) (⟨_, rfl, rfl, kF10, ⟨_, _, _, _, _, _, _, _, kh2, ⟨f4, f5, f6, f7, rfl, f9, f10, f11, f13, f14, f16, f27⟩, kh3, kh4, kh5, kh6, kh7, kh8, kh9, kR11, kR12, kR13, kR14, gr, gS, gK, hm8, gU, hn60, hT, hll, hln⟩⟩)

set_option maxHeartbeats 400000 in
set_option maxRecDepth 100000 in
theorem qX10_wordLength {X : zX} (hX : X.1.stackTraces = false) {σ : zS} {y : Nat} {w tm cd dn : Int32} {K : zDk} {A S : zDk} {m : Nat} {U : Nat → zDk} {n : Nat} {T : Nat → Int32} {ll : Nat} {ln : Nat → Int32} {hs kf ld dt dc : Int32} {i : Nat} (hM : zMo y w tm cd dn K A S m U n T ll ln hs kf ld dt dc σ) (gA : zGd A) (hi : i < kC A) : zMet X mX10_wordLength yX10_wordLength 3 0 0 [.ref y, .int (nI i)] σ (zI (fun y_ s => y_ = nI (kN A i) ∧ zFr σ s (zMq y) ∧ zMo y w tm 0 0 K A S m U n T ll ln hs kf ld dt dc s)) := by
  refine zMet_of (ls := [some (.ref y), some (.int (nI i))]) rfl (by decide +kernel) rfl (fun h => by cases h) hX (Nat.le_of_ble_eq_true rfl) rfl ?_
  obtain ⟨F, g, kp, sv, bf, ip, sg, td, h0, hf, h1, h2, h3, h4, h5, h6, h11, hWa, hC, hX9, hOt, gr, gS, gK, hm8, gU, hn60, hT, hll, hln⟩ := id hM
  obtain ⟨f4, f5, f6, f7, f8, f9, f10, f11, f13, f14, f16, f27⟩ := id hf
  have hA := gA.1
  obtain ⟨r0, r1, rc, rp⟩ := id gr
  obtain ⟨hC8, hP8, hW⟩ := id hA
  refine zr_aload_n dX10_wordLength_0 rfl ?_
  refine zr_iload_n dX10_wordLength_1 rfl ?_
  refine zr_callVi [] dX10_wordLength_2 vX10_155 (qX10_isNone hX (i := i) h0 h1 r0 (by omega) hi) h0 (by decide) (by decide) (by decide) rfl rfl (Nat.le_of_ble_eq_true rfl) (by decide) rfl (fun kr1 s_kr1 h_kr1 => ?_)
  obtain ⟨e_kr1, F_kr1, g0_kr1⟩ := h_kr1
  have kh2 : s_kr1.1 (y + 1) = .inl (0, 82, .inl g) := zFr.get F_kr1 (by omega) h1
  have kh3 : s_kr1.1 (y + 2) = .inl (0, 656, .inl kp) := zFr.get F_kr1 (by omega) h2
  have kh4 : s_kr1.1 (y + 3) = .inl (0, 82, .inl sv) := zFr.get F_kr1 (by omega) h3
  have kh5 : s_kr1.1 (y + 4) = .inl (0, 82, .inl bf) := zFr.get F_kr1 (by omega) h4
  have kh6 : s_kr1.1 (y + 5) = .inl (0, 60, .inl ip) := zFr.get F_kr1 (by omega) h5
  have kh7 : s_kr1.1 (y + 6) = .inl (1, 400, .inl sg) := zFr.get F_kr1 (by omega) h6
  have kh8 : s_kr1.1 (y + 11) = .inl (0, 93, .inl td) := zFr.get F_kr1 (by omega) h11
  have kR9 : zWa y s_kr1 := zWa.fr hWa F_kr1 (by intro q h1 h2 h3; (try simp only [zIn, zJf] at h3); omega)
  have kR10 : zCy y s_kr1 := zCy.fr hC F_kr1 (by intro q h1 h2 h3; (try simp only [zIn, zJf] at h3); omega)
  have kR11 : zXa y s_kr1 := zXa.fr hX9 F_kr1 (by intro q h1 h2 h3; (try simp only [zIn, zJf] at h3); omega)
  have kR12 : zOa y s_kr1 := zOa.fr hOt F_kr1 (by intro q h1 h2 h3; (try simp only [zIn, zJf] at h3); omega)
  have kF13 := zFr.tr zFr.rf (P := zMq y) F_kr1 (by intro q hq; unfold zMq; omega)
  obtain rfl := e_kr1.symm
  refine zr_if_eq (tgt := 12) dX10_wordLength_5 (by decide) (fun c_5 => ?_) (fun c_5 => absurd (by decide) c_5)
  refine zr_aload_n dX10_wordLength_12 rfl ?_
  refine zr_iload_n dX10_wordLength_13 rfl ?_
  refine zr_iconst (v := 0) dX10_wordLength_14 (by decide) ?_
  refine zr_pVi [] dX10_wordLength_15 vX10_149 (qX10_of hX (i := i) (k := 0) g0_kr1 kh2 (by omega)) g0_kr1 (by decide) (by decide) (by decide) rfl rfl (Nat.le_of_ble_eq_true rfl) (by decide) rfl ?_
  refine zr_eqi (x' := nI (kN A i)) ((rc i hi).1) ?_
  exact zr_ireturn dX10_wordLength_18 rfl (rfl) (⟨_, rfl, rfl, kF13, ⟨_, _, _, _, _, _, _, _, g0_kr1, ⟨f4, f5, f6, rfl, rfl, f9, f10, f11, f13, f14, f16, f27⟩, kh2, kh3, kh4, kh5, kh6, kh7, kh8, kR9, kR10, kR11, kR12, gr, gS, gK, hm8, gU, hn60, hT, hll, hln⟩⟩)

set_option maxHeartbeats 400000 in
set_option maxRecDepth 100000 in
theorem qX10_wordLengthX {X : zX} (hX : X.1.stackTraces = false) {σ : zS} {y : Nat} {w tm cd dn : Int32} {K : zDk} {A S : zDk} {m : Nat} {U : Nat → zDk} {n : Nat} {T : Nat → Int32} {ll : Nat} {ln : Nat → Int32} {hs kf ld dt dc : Int32} {p : Int32} (hM : zMo y w tm cd dn K A S m U n T ll ln hs kf ld dt dc σ) (gA : zGd A) (hno : ¬ (¬ p < 0 ∧ p < nI (kC A))) : zMet X mX10_wordLength yX10_wordLength 4 0 0 [.ref y, .int p] σ (zI (fun y_ s => True ∧ zFr σ s (zMq y) ∧ zMo y w tm 1 0 K A S m U n T ll ln hs kf ld dt dc s)) := by
  refine zMet_of (ls := [some (.ref y), some (.int p)]) rfl (by decide +kernel) rfl (fun h => by cases h) hX (Nat.le_of_ble_eq_true rfl) rfl ?_
  obtain ⟨F, g, kp, sv, bf, ip, sg, td, h0, hf, h1, h2, h3, h4, h5, h6, h11, hWa, hC, hX9, hOt, gr, gS, gK, hm8, gU, hn60, hT, hll, hln⟩ := id hM
  obtain ⟨f4, f5, f6, f7, f8, f9, f10, f11, f13, f14, f16, f27⟩ := id hf
  have hA := gA.1
  obtain ⟨r0, r1, rc, rp⟩ := id gr
  obtain ⟨hC8, hP8, hW⟩ := id hA
  refine zr_aload_n dX10_wordLength_0 rfl ?_
  refine zr_iload_n dX10_wordLength_1 rfl ?_
  refine zr_callVi [] dX10_wordLength_2 vX10_155 (qX10_isNoneX hX h0 h1 r0 (by omega) hno) h0 (by decide) (by decide) (by decide) rfl rfl (Nat.le_of_ble_eq_true rfl) (by decide) rfl (fun kr1 s_kr1 h_kr1 => ?_)
  obtain ⟨e_kr1, F_kr1, g0_kr1⟩ := h_kr1
  have kh2 : s_kr1.1 (y + 1) = .inl (0, 82, .inl g) := zFr.get F_kr1 (by omega) h1
  have kh3 : s_kr1.1 (y + 2) = .inl (0, 656, .inl kp) := zFr.get F_kr1 (by omega) h2
  have kh4 : s_kr1.1 (y + 3) = .inl (0, 82, .inl sv) := zFr.get F_kr1 (by omega) h3
  have kh5 : s_kr1.1 (y + 4) = .inl (0, 82, .inl bf) := zFr.get F_kr1 (by omega) h4
  have kh6 : s_kr1.1 (y + 5) = .inl (0, 60, .inl ip) := zFr.get F_kr1 (by omega) h5
  have kh7 : s_kr1.1 (y + 6) = .inl (1, 400, .inl sg) := zFr.get F_kr1 (by omega) h6
  have kh8 : s_kr1.1 (y + 11) = .inl (0, 93, .inl td) := zFr.get F_kr1 (by omega) h11
  have kR9 : zWa y s_kr1 := zWa.fr hWa F_kr1 (by intro q h1 h2 h3; (try simp only [zIn, zJf] at h3); omega)
  have kR10 : zCy y s_kr1 := zCy.fr hC F_kr1 (by intro q h1 h2 h3; (try simp only [zIn, zJf] at h3); omega)
  have kR11 : zXa y s_kr1 := zXa.fr hX9 F_kr1 (by intro q h1 h2 h3; (try simp only [zIn, zJf] at h3); omega)
  have kR12 : zOa y s_kr1 := zOa.fr hOt F_kr1 (by intro q h1 h2 h3; (try simp only [zIn, zJf] at h3); omega)
  have kF13 := zFr.tr zFr.rf (P := zMq y) F_kr1 (by intro q hq; unfold zMq; omega)
  obtain rfl := e_kr1.symm
  refine zr_if_eq (tgt := 12) dX10_wordLength_5 (by decide) (fun c_5 => absurd c_5 (by decide)) (fun c_5 => ?_)
  refine zr_iconst (v := 0) dX10_wordLength_8 (by decide) ?_
  refine zr_goto (tgt := 18) dX10_wordLength_9 (by decide) ?_
  exact zr_ireturn dX10_wordLength_18 rfl (rfl) (⟨_, rfl, trivial, kF13, ⟨_, _, _, _, _, _, _, _, g0_kr1, ⟨f4, f5, f6, rfl, rfl, f9, f10, f11, f13, f14, f16, f27⟩, kh2, kh3, kh4, kh5, kh6, kh7, kh8, kR9, kR10, kR11, kR12, gr, gS, gK, hm8, gU, hn60, hT, hll, hln⟩⟩)

set_option maxHeartbeats 400000 in
set_option maxRecDepth 100000 in
theorem qX10_letterAt {X : zX} (hX : X.1.stackTraces = false) {σ : zS} {y : Nat} {w tm cd dn : Int32} {K : zDk} {A S : zDk} {m : Nat} {U : Nat → zDk} {n : Nat} {T : Nat → Int32} {ll : Nat} {ln : Nat → Int32} {hs kf ld dt dc : Int32} {i j : Nat} (hM : zMo y w tm cd dn K A S m U n T ll ln hs kf ld dt dc σ) (gA : zGd A) (hi : i < kC A) (hj8 : j < kN A i) : zMet X mX10_letterAt yX10_letterAt 3 0 0 [.ref y, .int (nI i), .int (nI j)] σ (zI (fun y_ s => y_ = zchr (kL A i j) ∧ zFr σ s (zMq y) ∧ zMo y w tm 0 0 K A S m U n T ll ln hs kf ld dt dc s)) := by
  refine zMet_of (ls := [some (.ref y), some (.int (nI i)), some (.int (nI j))]) rfl (by decide +kernel) rfl (fun h => by cases h) hX (Nat.le_of_ble_eq_true rfl) rfl ?_
  obtain ⟨F, g, kp, sv, bf, ip, sg, td, h0, hf, h1, h2, h3, h4, h5, h6, h11, hWa, hC, hX9, hOt, gr, gS, gK, hm8, gU, hn60, hT, hll, hln⟩ := id hM
  obtain ⟨f4, f5, f6, f7, f8, f9, f10, f11, f13, f14, f16, f27⟩ := id hf
  have hA := gA.1
  obtain ⟨r0, r1, rc, rp⟩ := id gr
  obtain ⟨hC8, hP8, hW⟩ := id hA
  have n16 := (hW i (by omega)).1
  refine zr_aload_n dX10_letterAt_0 rfl ?_
  refine zr_aload_n dX10_letterAt_1 rfl ?_
  refine zr_iload_n dX10_letterAt_2 rfl ?_
  refine zr_pVi [.ref y] dX10_letterAt_3 vX10_131 (qX10_isCase hX (p := nI i) h0 h1 r0 (by omega)) h0 (by decide) (by decide) (by decide) rfl rfl (Nat.le_of_ble_eq_true rfl) (by decide) rfl ?_
  refine zr_if_ne (tgt := 13) dX10_letterAt_6 (by decide) (fun c_6 => ?_) (fun c_6 => absurd c_6 (fun q => ite10.mp q (isin_y hi (by omega))))
  refine zr_iload_n dX10_letterAt_13 rfl ?_
  refine zr_iconst (v := 0) dX10_letterAt_14 (by decide) ?_
  refine zr_aload_n dX10_letterAt_15 rfl ?_
  refine zr_iload_n dX10_letterAt_16 rfl ?_
  refine zr_iconst (v := 0) dX10_letterAt_17 (by decide) ?_
  refine zr_pVi [.int 0, .int (nI j), .ref y] dX10_letterAt_18 vX10_149 (qX10_of hX (i := i) (k := 0) h0 h1 (by omega)) h0 (by decide) (by decide) (by decide) rfl rfl (Nat.le_of_ble_eq_true rfl) (by decide) rfl ?_
  refine zr_eqi (x' := nI (kN A i)) ((rc i hi).1) ?_
  refine zr_iconst (v := 1) dX10_letterAt_21 (by decide) ?_
  refine zr_isub dX10_letterAt_22 ?_
  refine zr_pSi [.ref y] dX10_letterAt_23 vX10_75 (qX10_in hX (v := nI j) (l := 0) (h := (nI (kN A i) - 1))) (by decide) (by decide) (by decide) rfl rfl (Nat.le_of_ble_eq_true rfl) rfl ?_
  refine zr_eqi (x' := (if ¬ nI j < 0 ∧ nI j < nI (kN A i) then 1 else 0)) (isin_if (by omega)) ?_
  refine zr_if_eq (tgt := 33) dX10_letterAt_26 (by decide) (fun c_26 => absurd c_26 (fun q => ite10.mp q (isin_y hj8 (by omega)))) (fun c_26 => ?_)
  refine zr_iconst (v := 0) dX10_letterAt_29 (by decide) ?_
  refine zr_goto (tgt := 34) dX10_letterAt_30 (by decide) ?_
  refine zr_callVi [] dX10_letterAt_34 vX10_135 (qX10_fails hX (p := 0) h0) h0 (by decide) (by decide) (by decide) rfl rfl (Nat.le_of_ble_eq_true rfl) (by decide) rfl (fun kr1 s_kr1 h_kr1 => ?_)
  obtain ⟨e_kr1, F_kr1, g0_kr1⟩ := h_kr1
  have kh2 : s_kr1.1 (y + 1) = .inl (0, 82, .inl g) := zFr.get F_kr1 (by omega) h1
  have kh3 : s_kr1.1 (y + 2) = .inl (0, 656, .inl kp) := zFr.get F_kr1 (by omega) h2
  have kh4 : s_kr1.1 (y + 3) = .inl (0, 82, .inl sv) := zFr.get F_kr1 (by omega) h3
  have kh5 : s_kr1.1 (y + 4) = .inl (0, 82, .inl bf) := zFr.get F_kr1 (by omega) h4
  have kh6 : s_kr1.1 (y + 5) = .inl (0, 60, .inl ip) := zFr.get F_kr1 (by omega) h5
  have kh7 : s_kr1.1 (y + 6) = .inl (1, 400, .inl sg) := zFr.get F_kr1 (by omega) h6
  have kh8 : s_kr1.1 (y + 11) = .inl (0, 93, .inl td) := zFr.get F_kr1 (by omega) h11
  have kR9 : zWa y s_kr1 := zWa.fr hWa F_kr1 (by intro q h1 h2 h3; (try simp only [zIn, zJf] at h3); omega)
  have kR10 : zCy y s_kr1 := zCy.fr hC F_kr1 (by intro q h1 h2 h3; (try simp only [zIn, zJf] at h3); omega)
  have kR11 : zXa y s_kr1 := zXa.fr hX9 F_kr1 (by intro q h1 h2 h3; (try simp only [zIn, zJf] at h3); omega)
  have kR12 : zOa y s_kr1 := zOa.fr hOt F_kr1 (by intro q h1 h2 h3; (try simp only [zIn, zJf] at h3); omega)
  have kF13 := zFr.tr zFr.rf (P := zMq y) F_kr1 (by intro q hq; unfold zMq; omega)
  replace e_kr1 := e_kr1.trans (if_pos (by decide) : (_ : Int32) = 0)
  obtain rfl := e_kr1.symm
  refine zr_if_eq (tgt := 45) dX10_letterAt_37 (by decide) (fun c_37 => ?_) (fun c_37 => absurd (by decide) c_37)
  refine zr_aload_n dX10_letterAt_45 rfl ?_
  refine zr_iload_n dX10_letterAt_46 rfl ?_
  refine zr_pSi [.ref y] dX10_letterAt_47 vX10_138 (qX10_caseAt hX (i := i)) (by decide) (by decide) (by decide) rfl rfl (Nat.le_of_ble_eq_true rfl) rfl ?_
  refine zr_iload_n dX10_letterAt_50 rfl ?_
  refine zr_pVi [] dX10_letterAt_51 vX10_86 (qX10_letter hX (w := 2 + 5 * i) (k := j) g0_kr1 kh2 (by omega) (by omega)) g0_kr1 (by decide) (by decide) (by decide) rfl rfl (Nat.le_of_ble_eq_true rfl) (by decide) rfl ?_
  refine zr_eqi (x' := (kL A i j)) ((rc i hi).2.2.2 j hj8) ?_
  refine zr_pSi [] dX10_letterAt_54 vX10_161 (qX10_written hX (l := (kL A i j))) (by decide) (by decide) (by decide) rfl rfl (Nat.le_of_ble_eq_true rfl) rfl ?_
  exact zr_ireturn dX10_letterAt_57 rfl (zchr_nar _) (⟨_, rfl, rfl, kF13, ⟨_, _, _, _, _, _, _, _, g0_kr1, ⟨f4, f5, f6, rfl, rfl, f9, f10, f11, f13, f14, f16, f27⟩, kh2, kh3, kh4, kh5, kh6, kh7, kh8, kR9, kR10, kR11, kR12, gr, gS, gK, hm8, gU, hn60, hT, hll, hln⟩⟩)

set_option maxHeartbeats 400000 in
set_option maxRecDepth 100000 in
theorem qX10_letterAtN {X : zX} (hX : X.1.stackTraces = false) {σ : zS} {y : Nat} {w tm cd dn : Int32} {K : zDk} {A S : zDk} {m : Nat} {U : Nat → zDk} {n : Nat} {T : Nat → Int32} {ll : Nat} {ln : Nat → Int32} {hs kf ld dt dc : Int32} {i : Nat} {p : Int32} (hM : zMo y w tm cd dn K A S m U n T ll ln hs kf ld dt dc σ) (gA : zGd A) (hi : i < kC A) (hno : ¬ (¬ p < 0 ∧ p < nI (kN A i))) : zMet X mX10_letterAt yX10_letterAt 3 0 0 [.ref y, .int (nI i), .int p] σ (zI (fun y_ s => True ∧ zFr σ s (zMq y) ∧ zMo y w tm 2 0 K A S m U n T ll ln hs kf ld dt dc s)) := by
  refine zMet_of (ls := [some (.ref y), some (.int (nI i)), some (.int p)]) rfl (by decide +kernel) rfl (fun h => by cases h) hX (Nat.le_of_ble_eq_true rfl) rfl ?_
  obtain ⟨F, g, kp, sv, bf, ip, sg, td, h0, hf, h1, h2, h3, h4, h5, h6, h11, hWa, hC, hX9, hOt, gr, gS, gK, hm8, gU, hn60, hT, hll, hln⟩ := id hM
  obtain ⟨f4, f5, f6, f7, f8, f9, f10, f11, f13, f14, f16, f27⟩ := id hf
  have hA := gA.1
  obtain ⟨r0, r1, rc, rp⟩ := id gr
  obtain ⟨hC8, hP8, hW⟩ := id hA
  have n16 := (hW i (by omega)).1
  refine zr_aload_n dX10_letterAt_0 rfl ?_
  refine zr_aload_n dX10_letterAt_1 rfl ?_
  refine zr_iload_n dX10_letterAt_2 rfl ?_
  refine zr_pVi [.ref y] dX10_letterAt_3 vX10_131 (qX10_isCase hX (p := nI i) h0 h1 r0 (by omega)) h0 (by decide) (by decide) (by decide) rfl rfl (Nat.le_of_ble_eq_true rfl) (by decide) rfl ?_
  refine zr_if_ne (tgt := 13) dX10_letterAt_6 (by decide) (fun c_6 => ?_) (fun c_6 => absurd c_6 (fun q => ite10.mp q (isin_y hi (by omega))))
  refine zr_iload_n dX10_letterAt_13 rfl ?_
  refine zr_iconst (v := 0) dX10_letterAt_14 (by decide) ?_
  refine zr_aload_n dX10_letterAt_15 rfl ?_
  refine zr_iload_n dX10_letterAt_16 rfl ?_
  refine zr_iconst (v := 0) dX10_letterAt_17 (by decide) ?_
  refine zr_pVi [.int 0, .int p, .ref y] dX10_letterAt_18 vX10_149 (qX10_of hX (i := i) (k := 0) h0 h1 (by omega)) h0 (by decide) (by decide) (by decide) rfl rfl (Nat.le_of_ble_eq_true rfl) (by decide) rfl ?_
  refine zr_eqi (x' := nI (kN A i)) ((rc i hi).1) ?_
  refine zr_iconst (v := 1) dX10_letterAt_21 (by decide) ?_
  refine zr_isub dX10_letterAt_22 ?_
  refine zr_pSi [.ref y] dX10_letterAt_23 vX10_75 (qX10_in hX (v := p) (l := 0) (h := (nI (kN A i) - 1))) (by decide) (by decide) (by decide) rfl rfl (Nat.le_of_ble_eq_true rfl) rfl ?_
  refine zr_eqi (x' := (if ¬ p < 0 ∧ p < nI (kN A i) then 1 else 0)) (isin_if (by omega)) ?_
  refine zr_if_eq (tgt := 33) dX10_letterAt_26 (by decide) (fun c_26 => ?_) (fun c_26 => absurd (ite10.mpr hno) c_26)
  refine zr_iconst (v := 2) dX10_letterAt_33 (by decide) ?_
  refine zr_callVi [] dX10_letterAt_34 vX10_135 (qX10_fails hX (p := 2) h0) h0 (by decide) (by decide) (by decide) rfl rfl (Nat.le_of_ble_eq_true rfl) (by decide) rfl (fun kr1 s_kr1 h_kr1 => ?_)
  obtain ⟨e_kr1, F_kr1, g0_kr1⟩ := h_kr1
  have kh2 : s_kr1.1 (y + 1) = .inl (0, 82, .inl g) := zFr.get F_kr1 (by omega) h1
  have kh3 : s_kr1.1 (y + 2) = .inl (0, 656, .inl kp) := zFr.get F_kr1 (by omega) h2
  have kh4 : s_kr1.1 (y + 3) = .inl (0, 82, .inl sv) := zFr.get F_kr1 (by omega) h3
  have kh5 : s_kr1.1 (y + 4) = .inl (0, 82, .inl bf) := zFr.get F_kr1 (by omega) h4
  have kh6 : s_kr1.1 (y + 5) = .inl (0, 60, .inl ip) := zFr.get F_kr1 (by omega) h5
  have kh7 : s_kr1.1 (y + 6) = .inl (1, 400, .inl sg) := zFr.get F_kr1 (by omega) h6
  have kh8 : s_kr1.1 (y + 11) = .inl (0, 93, .inl td) := zFr.get F_kr1 (by omega) h11
  have kR9 : zWa y s_kr1 := zWa.fr hWa F_kr1 (by intro q h1 h2 h3; (try simp only [zIn, zJf] at h3); omega)
  have kR10 : zCy y s_kr1 := zCy.fr hC F_kr1 (by intro q h1 h2 h3; (try simp only [zIn, zJf] at h3); omega)
  have kR11 : zXa y s_kr1 := zXa.fr hX9 F_kr1 (by intro q h1 h2 h3; (try simp only [zIn, zJf] at h3); omega)
  have kR12 : zOa y s_kr1 := zOa.fr hOt F_kr1 (by intro q h1 h2 h3; (try simp only [zIn, zJf] at h3); omega)
  have kF13 := zFr.tr zFr.rf (P := zMq y) F_kr1 (by intro q hq; unfold zMq; omega)
  replace e_kr1 := e_kr1.trans (if_neg (by decide) : (_ : Int32) = 1)
  obtain rfl := e_kr1.symm
  refine zr_if_eq (tgt := 45) dX10_letterAt_37 (by decide) (fun c_37 => absurd c_37 (by decide)) (fun c_37 => ?_)
  refine zr_bipush (v := 32) dX10_letterAt_40 (by decide) ?_
  refine zr_goto (tgt := 57) dX10_letterAt_42 (by decide) ?_
  exact zr_ireturn dX10_letterAt_57 rfl (rfl) (⟨_, rfl, trivial, kF13, ⟨_, _, _, _, _, _, _, _, g0_kr1, ⟨f4, f5, f6, rfl, rfl, f9, f10, f11, f13, f14, f16, f27⟩, kh2, kh3, kh4, kh5, kh6, kh7, kh8, kR9, kR10, kR11, kR12, gr, gS, gK, hm8, gU, hn60, hT, hll, hln⟩⟩)

set_option maxHeartbeats 400000 in
set_option maxRecDepth 100000 in
theorem qX10_letterAtX {X : zX} (hX : X.1.stackTraces = false) {σ : zS} {y : Nat} {w tm cd dn : Int32} {K : zDk} {A S : zDk} {m : Nat} {U : Nat → zDk} {n : Nat} {T : Nat → Int32} {ll : Nat} {ln : Nat → Int32} {hs kf ld dt dc : Int32} {p : Int32} {p2 : Int32} (hM : zMo y w tm cd dn K A S m U n T ll ln hs kf ld dt dc σ) (gA : zGd A) (hno : ¬ (¬ p < 0 ∧ p < nI (kC A))) : zMet X mX10_letterAt yX10_letterAt 3 0 0 [.ref y, .int p, .int p2] σ (zI (fun y_ s => True ∧ zFr σ s (zMq y) ∧ zMo y w tm 1 0 K A S m U n T ll ln hs kf ld dt dc s)) := by
  refine zMet_of (ls := [some (.ref y), some (.int p), some (.int p2)]) rfl (by decide +kernel) rfl (fun h => by cases h) hX (Nat.le_of_ble_eq_true rfl) rfl ?_
  obtain ⟨F, g, kp, sv, bf, ip, sg, td, h0, hf, h1, h2, h3, h4, h5, h6, h11, hWa, hC, hX9, hOt, gr, gS, gK, hm8, gU, hn60, hT, hll, hln⟩ := id hM
  obtain ⟨f4, f5, f6, f7, f8, f9, f10, f11, f13, f14, f16, f27⟩ := id hf
  have hA := gA.1
  obtain ⟨r0, r1, rc, rp⟩ := id gr
  obtain ⟨hC8, hP8, hW⟩ := id hA
  refine zr_aload_n dX10_letterAt_0 rfl ?_
  refine zr_aload_n dX10_letterAt_1 rfl ?_
  refine zr_iload_n dX10_letterAt_2 rfl ?_
  refine zr_pVi [.ref y] dX10_letterAt_3 vX10_131 (qX10_isCase hX (p := p) h0 h1 r0 (by omega)) h0 (by decide) (by decide) (by decide) rfl rfl (Nat.le_of_ble_eq_true rfl) (by decide) rfl ?_
  refine zr_if_ne (tgt := 13) dX10_letterAt_6 (by decide) (fun c_6 => absurd (ite10.mpr hno) c_6) (fun c_6 => ?_)
  refine zr_iconst (v := 1) dX10_letterAt_9 (by decide) ?_
  refine zr_goto (tgt := 34) dX10_letterAt_10 (by decide) ?_
  refine zr_callVi [] dX10_letterAt_34 vX10_135 (qX10_fails hX (p := 1) h0) h0 (by decide) (by decide) (by decide) rfl rfl (Nat.le_of_ble_eq_true rfl) (by decide) rfl (fun kr1 s_kr1 h_kr1 => ?_)
  obtain ⟨e_kr1, F_kr1, g0_kr1⟩ := h_kr1
  have kh2 : s_kr1.1 (y + 1) = .inl (0, 82, .inl g) := zFr.get F_kr1 (by omega) h1
  have kh3 : s_kr1.1 (y + 2) = .inl (0, 656, .inl kp) := zFr.get F_kr1 (by omega) h2
  have kh4 : s_kr1.1 (y + 3) = .inl (0, 82, .inl sv) := zFr.get F_kr1 (by omega) h3
  have kh5 : s_kr1.1 (y + 4) = .inl (0, 82, .inl bf) := zFr.get F_kr1 (by omega) h4
  have kh6 : s_kr1.1 (y + 5) = .inl (0, 60, .inl ip) := zFr.get F_kr1 (by omega) h5
  have kh7 : s_kr1.1 (y + 6) = .inl (1, 400, .inl sg) := zFr.get F_kr1 (by omega) h6
  have kh8 : s_kr1.1 (y + 11) = .inl (0, 93, .inl td) := zFr.get F_kr1 (by omega) h11
  have kR9 : zWa y s_kr1 := zWa.fr hWa F_kr1 (by intro q h1 h2 h3; (try simp only [zIn, zJf] at h3); omega)
  have kR10 : zCy y s_kr1 := zCy.fr hC F_kr1 (by intro q h1 h2 h3; (try simp only [zIn, zJf] at h3); omega)
  have kR11 : zXa y s_kr1 := zXa.fr hX9 F_kr1 (by intro q h1 h2 h3; (try simp only [zIn, zJf] at h3); omega)
  have kR12 : zOa y s_kr1 := zOa.fr hOt F_kr1 (by intro q h1 h2 h3; (try simp only [zIn, zJf] at h3); omega)
  have kF13 := zFr.tr zFr.rf (P := zMq y) F_kr1 (by intro q hq; unfold zMq; omega)
  replace e_kr1 := e_kr1.trans (if_neg (by decide) : (_ : Int32) = 1)
  obtain rfl := e_kr1.symm
  refine zr_if_eq (tgt := 45) dX10_letterAt_37 (by decide) (fun c_37 => absurd c_37 (by decide)) (fun c_37 => ?_)
  refine zr_bipush (v := 32) dX10_letterAt_40 (by decide) ?_
  refine zr_goto (tgt := 57) dX10_letterAt_42 (by decide) ?_
  exact zr_ireturn dX10_letterAt_57 rfl (rfl) (⟨_, rfl, trivial, kF13, ⟨_, _, _, _, _, _, _, _, g0_kr1, ⟨f4, f5, f6, rfl, rfl, f9, f10, f11, f13, f14, f16, f27⟩, kh2, kh3, kh4, kh5, kh6, kh7, kh8, kR9, kR10, kR11, kR12, gr, gS, gK, hm8, gU, hn60, hT, hll, hln⟩⟩)

set_option maxHeartbeats 400000 in
set_option maxRecDepth 100000 in
theorem qX10_hasHandleY {X : zX} (hX : X.1.stackTraces = false) {σ : zS} {y : Nat} {w tm cd dn : Int32} {K : zDk} {A S : zDk} {m : Nat} {U : Nat → zDk} {n : Nat} {T : Nat → Int32} {ll : Nat} {ln : Nat → Int32} {hs kf ld dt dc : Int32} {i e : Nat} (hM : zMo y w tm cd dn K A S m U n T ll ln hs kf ld dt dc σ) (gA : zGd A) (hi : i < kC A) (he : zfe (kL A i) 0 (kN A i) = nI e) (hen : e < kN A i) : zMet X mX10_hasHandle yX10_hasHandle 4 0 0 [.ref y, .int (nI i)] σ (zI (fun y_ s => y_ = 1 ∧ zFr σ s (zMq y) ∧ zMo y w tm 0 0 K A S m U n T ll ln hs kf ld dt dc s)) := by
  refine zMet_of (ls := [some (.ref y), some (.int (nI i))]) rfl (by decide +kernel) rfl (fun h => by cases h) hX (Nat.le_of_ble_eq_true rfl) rfl ?_
  obtain ⟨F, g, kp, sv, bf, ip, sg, td, h0, hf, h1, h2, h3, h4, h5, h6, h11, hWa, hC, hX9, hOt, gr, gS, gK, hm8, gU, hn60, hT, hll, hln⟩ := id hM
  obtain ⟨f4, f5, f6, f7, f8, f9, f10, f11, f13, f14, f16, f27⟩ := id hf
  have hA := gA.1
  obtain ⟨r0, r1, rc, rp⟩ := id gr
  obtain ⟨hC8, hP8, hW⟩ := id hA
  have n16 := (hW i (by omega)).1
  refine zr_aload_n dX10_hasHandle_0 rfl ?_
  refine zr_iload_n dX10_hasHandle_1 rfl ?_
  refine zr_callVi [] dX10_hasHandle_2 vX10_155 (qX10_isNone hX (i := i) h0 h1 r0 (by omega) hi) h0 (by decide) (by decide) (by decide) rfl rfl (Nat.le_of_ble_eq_true rfl) (by decide) rfl (fun kr1 s_kr1 h_kr1 => ?_)
  obtain ⟨e_kr1, F_kr1, g0_kr1⟩ := h_kr1
  have kh2 : s_kr1.1 (y + 1) = .inl (0, 82, .inl g) := zFr.get F_kr1 (by omega) h1
  have kh3 : s_kr1.1 (y + 2) = .inl (0, 656, .inl kp) := zFr.get F_kr1 (by omega) h2
  have kh4 : s_kr1.1 (y + 3) = .inl (0, 82, .inl sv) := zFr.get F_kr1 (by omega) h3
  have kh5 : s_kr1.1 (y + 4) = .inl (0, 82, .inl bf) := zFr.get F_kr1 (by omega) h4
  have kh6 : s_kr1.1 (y + 5) = .inl (0, 60, .inl ip) := zFr.get F_kr1 (by omega) h5
  have kh7 : s_kr1.1 (y + 6) = .inl (1, 400, .inl sg) := zFr.get F_kr1 (by omega) h6
  have kh8 : s_kr1.1 (y + 11) = .inl (0, 93, .inl td) := zFr.get F_kr1 (by omega) h11
  have kR9 : zWa y s_kr1 := zWa.fr hWa F_kr1 (by intro q h1 h2 h3; (try simp only [zIn, zJf] at h3); omega)
  have kR10 : zCy y s_kr1 := zCy.fr hC F_kr1 (by intro q h1 h2 h3; (try simp only [zIn, zJf] at h3); omega)
  have kR11 : zXa y s_kr1 := zXa.fr hX9 F_kr1 (by intro q h1 h2 h3; (try simp only [zIn, zJf] at h3); omega)
  have kR12 : zOa y s_kr1 := zOa.fr hOt F_kr1 (by intro q h1 h2 h3; (try simp only [zIn, zJf] at h3); omega)
  have kF13 := zFr.tr zFr.rf (P := zMq y) F_kr1 (by intro q hq; unfold zMq; omega)
  obtain rfl := e_kr1.symm
  refine zr_if_ne (tgt := 20) dX10_hasHandle_5 (by decide) (fun c_5 => absurd (by decide) c_5) (fun c_5 => ?_)
  refine zr_aload_n dX10_hasHandle_8 rfl ?_
  refine zr_iload_n dX10_hasHandle_9 rfl ?_
  refine zr_callVi [] dX10_hasHandle_10 vX10_171 (qX10_hasOne hX (i := i) g0_kr1 kh2 gr hA hi kR9) g0_kr1 (by decide) (by decide) (by decide) rfl rfl (Nat.le_of_ble_eq_true rfl) (by decide) rfl (fun r1 s1 h_ => ?_)
  obtain ⟨u1, v1, F1, g0, kW1, h7⟩ := h_
  obtain ⟨a, b, rfl, hab, hb, e5, e6, rfl, rfl⟩ := h7.resolve_left (fun q => by rw [he] at q; exact nI_ne e (by omega) q.2)
  obtain rfl : b = e := (nI_eq (by omega) (by omega)).mp (e5.symm.trans he)
  have kh14 : s1.1 (y + 1) = .inl (0, 82, .inl g) := zFr.get F1 (by omega) kh2
  have kh15 : s1.1 (y + 2) = .inl (0, 656, .inl kp) := zFr.get F1 (by omega) kh3
  have kh16 : s1.1 (y + 3) = .inl (0, 82, .inl sv) := zFr.get F1 (by omega) kh4
  have kh17 : s1.1 (y + 4) = .inl (0, 82, .inl bf) := zFr.get F1 (by omega) kh5
  have kh18 : s1.1 (y + 5) = .inl (0, 60, .inl ip) := zFr.get F1 (by omega) kh6
  have kh19 : s1.1 (y + 6) = .inl (1, 400, .inl sg) := zFr.get F1 (by omega) kh7
  have kh20 : s1.1 (y + 11) = .inl (0, 93, .inl td) := zFr.get F1 (by omega) kh8
  have kR21 := zCy.fr kR10 F1 (by intro q a b c; omega)
  have kR22 := zXa.fr kR11 F1 (by intro q a b c; omega)
  have kR23 := zOa.fr kR12 F1 (by intro q a b c; omega)
  have kF24 := zFr.tr kF13 F1 (by intro q hq; unfold zMq; omega)
  refine zr_if_eq (tgt := 20) dX10_hasHandle_13 (by decide) (fun c_13 => absurd c_13 (by decide)) (fun c_13 => ?_)
  refine zr_iconst (v := 1) dX10_hasHandle_16 (by decide) ?_
  refine zr_goto (tgt := 21) dX10_hasHandle_17 (by decide) ?_
  exact zr_ireturn dX10_hasHandle_21 rfl (rfl) (⟨_, rfl, rfl, kF24, ⟨_, _, _, _, _, _, _, _, g0, ⟨f4, f5, f6, rfl, rfl, f9, f10, f11, f13, f14, f16, f27⟩, kh14, kh15, kh16, kh17, kh18, kh19, kh20, kW1, kR21, kR22, kR23, gr, gS, gK, hm8, gU, hn60, hT, hll, hln⟩⟩)

set_option maxHeartbeats 400000 in
set_option maxRecDepth 100000 in
theorem qX10_hasHandleN {X : zX} (hX : X.1.stackTraces = false) {σ : zS} {y : Nat} {w tm cd dn : Int32} {K : zDk} {A S : zDk} {m : Nat} {U : Nat → zDk} {n : Nat} {T : Nat → Int32} {ll : Nat} {ln : Nat → Int32} {hs kf ld dt dc : Int32} {i : Nat} (hM : zMo y w tm cd dn K A S m U n T ll ln hs kf ld dt dc σ) (gA : zGd A) (hi : i < kC A) (hz : zfe (kL A i) 0 (kN A i) = -1) : zMet X mX10_hasHandle yX10_hasHandle 4 0 0 [.ref y, .int (nI i)] σ (zI (fun y_ s => y_ = 0 ∧ zFr σ s (zMq y) ∧ zMo y w tm 0 0 K A S m U n T ll ln hs kf ld dt dc s)) := by
  refine zMet_of (ls := [some (.ref y), some (.int (nI i))]) rfl (by decide +kernel) rfl (fun h => by cases h) hX (Nat.le_of_ble_eq_true rfl) rfl ?_
  obtain ⟨F, g, kp, sv, bf, ip, sg, td, h0, hf, h1, h2, h3, h4, h5, h6, h11, hWa, hC, hX9, hOt, gr, gS, gK, hm8, gU, hn60, hT, hll, hln⟩ := id hM
  obtain ⟨f4, f5, f6, f7, f8, f9, f10, f11, f13, f14, f16, f27⟩ := id hf
  have hA := gA.1
  obtain ⟨r0, r1, rc, rp⟩ := id gr
  obtain ⟨hC8, hP8, hW⟩ := id hA
  have n16 := (hW i (by omega)).1
  refine zr_aload_n dX10_hasHandle_0 rfl ?_
  refine zr_iload_n dX10_hasHandle_1 rfl ?_
  refine zr_callVi [] dX10_hasHandle_2 vX10_155 (qX10_isNone hX (i := i) h0 h1 r0 (by omega) hi) h0 (by decide) (by decide) (by decide) rfl rfl (Nat.le_of_ble_eq_true rfl) (by decide) rfl (fun kr1 s_kr1 h_kr1 => ?_)
  obtain ⟨e_kr1, F_kr1, g0_kr1⟩ := h_kr1
  have kh2 : s_kr1.1 (y + 1) = .inl (0, 82, .inl g) := zFr.get F_kr1 (by omega) h1
  have kh3 : s_kr1.1 (y + 2) = .inl (0, 656, .inl kp) := zFr.get F_kr1 (by omega) h2
  have kh4 : s_kr1.1 (y + 3) = .inl (0, 82, .inl sv) := zFr.get F_kr1 (by omega) h3
  have kh5 : s_kr1.1 (y + 4) = .inl (0, 82, .inl bf) := zFr.get F_kr1 (by omega) h4
  have kh6 : s_kr1.1 (y + 5) = .inl (0, 60, .inl ip) := zFr.get F_kr1 (by omega) h5
  have kh7 : s_kr1.1 (y + 6) = .inl (1, 400, .inl sg) := zFr.get F_kr1 (by omega) h6
  have kh8 : s_kr1.1 (y + 11) = .inl (0, 93, .inl td) := zFr.get F_kr1 (by omega) h11
  have kR9 : zWa y s_kr1 := zWa.fr hWa F_kr1 (by intro q h1 h2 h3; (try simp only [zIn, zJf] at h3); omega)
  have kR10 : zCy y s_kr1 := zCy.fr hC F_kr1 (by intro q h1 h2 h3; (try simp only [zIn, zJf] at h3); omega)
  have kR11 : zXa y s_kr1 := zXa.fr hX9 F_kr1 (by intro q h1 h2 h3; (try simp only [zIn, zJf] at h3); omega)
  have kR12 : zOa y s_kr1 := zOa.fr hOt F_kr1 (by intro q h1 h2 h3; (try simp only [zIn, zJf] at h3); omega)
  have kF13 := zFr.tr zFr.rf (P := zMq y) F_kr1 (by intro q hq; unfold zMq; omega)
  obtain rfl := e_kr1.symm
  refine zr_if_ne (tgt := 20) dX10_hasHandle_5 (by decide) (fun c_5 => absurd (by decide) c_5) (fun c_5 => ?_)
  refine zr_aload_n dX10_hasHandle_8 rfl ?_
  refine zr_iload_n dX10_hasHandle_9 rfl ?_
  refine zr_callVi [] dX10_hasHandle_10 vX10_171 (qX10_hasOne hX (i := i) g0_kr1 kh2 gr hA hi kR9) g0_kr1 (by decide) (by decide) (by decide) rfl rfl (Nat.le_of_ble_eq_true rfl) (by decide) rfl (fun r1 s1 h_ => ?_)
  obtain ⟨u1, v1, F1, g0, kW1, h7⟩ := h_
  obtain ⟨rfl, -⟩ := h7.resolve_right (fun q => by obtain ⟨a, b, -, -, hb, e5, -⟩ := q; rw [hz] at e5; exact nI_ne b (by omega) e5.symm)
  have kh14 : s1.1 (y + 1) = .inl (0, 82, .inl g) := zFr.get F1 (by omega) kh2
  have kh15 : s1.1 (y + 2) = .inl (0, 656, .inl kp) := zFr.get F1 (by omega) kh3
  have kh16 : s1.1 (y + 3) = .inl (0, 82, .inl sv) := zFr.get F1 (by omega) kh4
  have kh17 : s1.1 (y + 4) = .inl (0, 82, .inl bf) := zFr.get F1 (by omega) kh5
  have kh18 : s1.1 (y + 5) = .inl (0, 60, .inl ip) := zFr.get F1 (by omega) kh6
  have kh19 : s1.1 (y + 6) = .inl (1, 400, .inl sg) := zFr.get F1 (by omega) kh7
  have kh20 : s1.1 (y + 11) = .inl (0, 93, .inl td) := zFr.get F1 (by omega) kh8
  have kR21 := zCy.fr kR10 F1 (by intro q a b c; omega)
  have kR22 := zXa.fr kR11 F1 (by intro q a b c; omega)
  have kR23 := zOa.fr kR12 F1 (by intro q a b c; omega)
  have kF24 := zFr.tr kF13 F1 (by intro q hq; unfold zMq; omega)
  refine zr_if_eq (tgt := 20) dX10_hasHandle_13 (by decide) (fun c_13 => ?_) (fun c_13 => absurd (by decide) c_13)
  refine zr_iconst (v := 0) dX10_hasHandle_20 (by decide) ?_
  exact zr_ireturn dX10_hasHandle_21 rfl (rfl) (⟨_, rfl, rfl, kF24, ⟨_, _, _, _, _, _, _, _, g0, ⟨f4, f5, f6, rfl, rfl, f9, f10, f11, f13, f14, f16, f27⟩, kh14, kh15, kh16, kh17, kh18, kh19, kh20, kW1, kR21, kR22, kR23, gr, gS, gK, hm8, gU, hn60, hT, hll, hln⟩⟩)

set_option maxHeartbeats 400000 in
set_option maxRecDepth 100000 in
theorem qX10_hasHandleX {X : zX} (hX : X.1.stackTraces = false) {σ : zS} {y : Nat} {w tm cd dn : Int32} {K : zDk} {A S : zDk} {m : Nat} {U : Nat → zDk} {n : Nat} {T : Nat → Int32} {ll : Nat} {ln : Nat → Int32} {hs kf ld dt dc : Int32} {p : Int32} (hM : zMo y w tm cd dn K A S m U n T ll ln hs kf ld dt dc σ) (gA : zGd A) (hno : ¬ (¬ p < 0 ∧ p < nI (kC A))) : zMet X mX10_hasHandle yX10_hasHandle 4 0 0 [.ref y, .int p] σ (zI (fun y_ s => True ∧ zFr σ s (zMq y) ∧ zMo y w tm 1 0 K A S m U n T ll ln hs kf ld dt dc s)) := by
  refine zMet_of (ls := [some (.ref y), some (.int p)]) rfl (by decide +kernel) rfl (fun h => by cases h) hX (Nat.le_of_ble_eq_true rfl) rfl ?_
  obtain ⟨F, g, kp, sv, bf, ip, sg, td, h0, hf, h1, h2, h3, h4, h5, h6, h11, hWa, hC, hX9, hOt, gr, gS, gK, hm8, gU, hn60, hT, hll, hln⟩ := id hM
  obtain ⟨f4, f5, f6, f7, f8, f9, f10, f11, f13, f14, f16, f27⟩ := id hf
  have hA := gA.1
  obtain ⟨r0, r1, rc, rp⟩ := id gr
  obtain ⟨hC8, hP8, hW⟩ := id hA
  refine zr_aload_n dX10_hasHandle_0 rfl ?_
  refine zr_iload_n dX10_hasHandle_1 rfl ?_
  refine zr_callVi [] dX10_hasHandle_2 vX10_155 (qX10_isNoneX hX h0 h1 r0 (by omega) hno) h0 (by decide) (by decide) (by decide) rfl rfl (Nat.le_of_ble_eq_true rfl) (by decide) rfl (fun kr1 s_kr1 h_kr1 => ?_)
  obtain ⟨e_kr1, F_kr1, g0_kr1⟩ := h_kr1
  have kh2 : s_kr1.1 (y + 1) = .inl (0, 82, .inl g) := zFr.get F_kr1 (by omega) h1
  have kh3 : s_kr1.1 (y + 2) = .inl (0, 656, .inl kp) := zFr.get F_kr1 (by omega) h2
  have kh4 : s_kr1.1 (y + 3) = .inl (0, 82, .inl sv) := zFr.get F_kr1 (by omega) h3
  have kh5 : s_kr1.1 (y + 4) = .inl (0, 82, .inl bf) := zFr.get F_kr1 (by omega) h4
  have kh6 : s_kr1.1 (y + 5) = .inl (0, 60, .inl ip) := zFr.get F_kr1 (by omega) h5
  have kh7 : s_kr1.1 (y + 6) = .inl (1, 400, .inl sg) := zFr.get F_kr1 (by omega) h6
  have kh8 : s_kr1.1 (y + 11) = .inl (0, 93, .inl td) := zFr.get F_kr1 (by omega) h11
  have kR9 : zWa y s_kr1 := zWa.fr hWa F_kr1 (by intro q h1 h2 h3; (try simp only [zIn, zJf] at h3); omega)
  have kR10 : zCy y s_kr1 := zCy.fr hC F_kr1 (by intro q h1 h2 h3; (try simp only [zIn, zJf] at h3); omega)
  have kR11 : zXa y s_kr1 := zXa.fr hX9 F_kr1 (by intro q h1 h2 h3; (try simp only [zIn, zJf] at h3); omega)
  have kR12 : zOa y s_kr1 := zOa.fr hOt F_kr1 (by intro q h1 h2 h3; (try simp only [zIn, zJf] at h3); omega)
  have kF13 := zFr.tr zFr.rf (P := zMq y) F_kr1 (by intro q hq; unfold zMq; omega)
  obtain rfl := e_kr1.symm
  refine zr_if_ne (tgt := 20) dX10_hasHandle_5 (by decide) (fun c_5 => ?_) (fun c_5 => absurd c_5 (by decide))
  refine zr_iconst (v := 0) dX10_hasHandle_20 (by decide) ?_
  exact zr_ireturn dX10_hasHandle_21 rfl (rfl) (⟨_, rfl, trivial, kF13, ⟨_, _, _, _, _, _, _, _, g0_kr1, ⟨f4, f5, f6, rfl, rfl, f9, f10, f11, f13, f14, f16, f27⟩, kh2, kh3, kh4, kh5, kh6, kh7, kh8, kR9, kR10, kR11, kR12, gr, gS, gK, hm8, gU, hn60, hT, hll, hln⟩⟩)

set_option maxHeartbeats 400000 in
set_option maxRecDepth 100000 in
theorem qX10_handleBegin {X : zX} (hX : X.1.stackTraces = false) {σ : zS} {y : Nat} {w tm cd dn : Int32} {K : zDk} {A S : zDk} {m : Nat} {U : Nat → zDk} {n : Nat} {T : Nat → Int32} {ll : Nat} {ln : Nat → Int32} {hs kf ld dt dc : Int32} {i e : Nat} (hM : zMo y w tm cd dn K A S m U n T ll ln hs kf ld dt dc σ) (gA : zGd A) (hi : i < kC A) (he : zfe (kL A i) 0 (kN A i) = nI e) (hen : e < kN A i) : zMet X mX10_handleBegin yX10_handleBegin 4 0 0 [.ref y, .int (nI i)] σ (zI (fun y_ s => y_ = zhb (kL A i) e ∧ zFr σ s (zMq y) ∧ zMo y w tm 0 0 K A S m U n T ll ln hs kf ld dt dc s)) := by
  refine zMet_of (ls := [some (.ref y), some (.int (nI i))]) rfl (by decide +kernel) rfl (fun h => by cases h) hX (Nat.le_of_ble_eq_true rfl) rfl ?_
  obtain ⟨F, g, kp, sv, bf, ip, sg, td, h0, hf, h1, h2, h3, h4, h5, h6, h11, hWa, hC, hX9, hOt, gr, gS, gK, hm8, gU, hn60, hT, hll, hln⟩ := id hM
  obtain ⟨f4, f5, f6, f7, f8, f9, f10, f11, f13, f14, f16, f27⟩ := id hf
  have hA := gA.1
  obtain ⟨r0, r1, rc, rp⟩ := id gr
  obtain ⟨hC8, hP8, hW⟩ := id hA
  have n16 := (hW i (by omega)).1
  refine zr_aload_n dX10_handleBegin_0 rfl ?_
  refine zr_aload_n dX10_handleBegin_1 rfl ?_
  refine zr_iload_n dX10_handleBegin_2 rfl ?_
  refine zr_pVi [.ref y] dX10_handleBegin_3 vX10_131 (qX10_isCase hX (p := nI i) h0 h1 r0 (by omega)) h0 (by decide) (by decide) (by decide) rfl rfl (Nat.le_of_ble_eq_true rfl) (by decide) rfl ?_
  refine zr_if_ne (tgt := 13) dX10_handleBegin_6 (by decide) (fun c_6 => ?_) (fun c_6 => absurd c_6 (fun q => ite10.mp q (isin_y hi (by omega))))
  refine zr_aload_n dX10_handleBegin_13 rfl ?_
  refine zr_iload_n dX10_handleBegin_14 rfl ?_
  refine zr_callVi [.ref y] dX10_handleBegin_15 vX10_171 (qX10_hasOne hX (i := i) h0 h1 gr hA hi hWa) h0 (by decide) (by decide) (by decide) rfl rfl (Nat.le_of_ble_eq_true rfl) (by decide) rfl (fun r1 s1 h_ => ?_)
  obtain ⟨u1, v1, F1, g0, kW1, h7⟩ := h_
  obtain ⟨a, b, rfl, hab, hb, e5, e6, rfl, rfl⟩ := h7.resolve_left (fun q => by rw [he] at q; exact nI_ne e (by omega) q.2)
  obtain rfl : b = e := (nI_eq (by omega) (by omega)).mp (e5.symm.trans he)
  have kh1 : s1.1 (y + 1) = .inl (0, 82, .inl g) := zFr.get F1 (by omega) h1
  have kh2 : s1.1 (y + 2) = .inl (0, 656, .inl kp) := zFr.get F1 (by omega) h2
  have kh3 : s1.1 (y + 3) = .inl (0, 82, .inl sv) := zFr.get F1 (by omega) h3
  have kh4 : s1.1 (y + 4) = .inl (0, 82, .inl bf) := zFr.get F1 (by omega) h4
  have kh5 : s1.1 (y + 5) = .inl (0, 60, .inl ip) := zFr.get F1 (by omega) h5
  have kh6 : s1.1 (y + 6) = .inl (1, 400, .inl sg) := zFr.get F1 (by omega) h6
  have kh7 : s1.1 (y + 11) = .inl (0, 93, .inl td) := zFr.get F1 (by omega) h11
  have kR8 := zCy.fr hC F1 (by intro q a b c; omega)
  have kR9 := zXa.fr hX9 F1 (by intro q a b c; omega)
  have kR10 := zOa.fr hOt F1 (by intro q a b c; omega)
  have kF11 := zFr.tr zFr.rf (P := zMq y) F1 (by intro q hq; unfold zMq; omega)
  refine zr_if_eq (tgt := 25) dX10_handleBegin_18 (by decide) (fun c_18 => absurd c_18 (by decide)) (fun c_18 => ?_)
  refine zr_iconst (v := 0) dX10_handleBegin_21 (by decide) ?_
  refine zr_goto (tgt := 26) dX10_handleBegin_22 (by decide) ?_
  refine zr_callVi [] dX10_handleBegin_26 vX10_135 (qX10_fails hX (p := 0) g0) g0 (by decide) (by decide) (by decide) rfl rfl (Nat.le_of_ble_eq_true rfl) (by decide) rfl (fun kr12 s_kr12 h_kr12 => ?_)
  obtain ⟨e_kr12, F_kr12, g0_kr12⟩ := h_kr12
  have kh13 : s_kr12.1 (y + 1) = .inl (0, 82, .inl g) := zFr.get F_kr12 (by omega) kh1
  have kh14 : s_kr12.1 (y + 2) = .inl (0, 656, .inl kp) := zFr.get F_kr12 (by omega) kh2
  have kh15 : s_kr12.1 (y + 3) = .inl (0, 82, .inl sv) := zFr.get F_kr12 (by omega) kh3
  have kh16 : s_kr12.1 (y + 4) = .inl (0, 82, .inl bf) := zFr.get F_kr12 (by omega) kh4
  have kh17 : s_kr12.1 (y + 5) = .inl (0, 60, .inl ip) := zFr.get F_kr12 (by omega) kh5
  have kh18 : s_kr12.1 (y + 6) = .inl (1, 400, .inl sg) := zFr.get F_kr12 (by omega) kh6
  have kh19 : s_kr12.1 (y + 11) = .inl (0, 93, .inl td) := zFr.get F_kr12 (by omega) kh7
  have kR20 : zWa y s_kr12 := zWa.fr kW1 F_kr12 (by intro q h1 h2 h3; (try simp only [zIn, zJf] at h3); omega)
  have kR21 : zCy y s_kr12 := zCy.fr kR8 F_kr12 (by intro q h1 h2 h3; (try simp only [zIn, zJf] at h3); omega)
  have kR22 : zXa y s_kr12 := zXa.fr kR9 F_kr12 (by intro q h1 h2 h3; (try simp only [zIn, zJf] at h3); omega)
  have kR23 : zOa y s_kr12 := zOa.fr kR10 F_kr12 (by intro q h1 h2 h3; (try simp only [zIn, zJf] at h3); omega)
  have kF24 := zFr.tr kF11 F_kr12 (by intro q hq; unfold zMq; omega)
  replace e_kr12 := e_kr12.trans (if_pos (by decide) : (_ : Int32) = 0)
  obtain rfl := e_kr12.symm
  refine zr_if_eq (tgt := 36) dX10_handleBegin_29 (by decide) (fun c_29 => ?_) (fun c_29 => absurd (by decide) c_29)
  refine zr_aload_n dX10_handleBegin_36 rfl ?_
  refine zr_getM (v := .int (nI a)) dX10_handleBegin_37 fX10_101 g0_kr12 rfl ?_
  exact zr_ireturn dX10_handleBegin_40 rfl (rfl) (⟨_, rfl, e6.symm, kF24, ⟨_, _, _, _, _, _, _, _, g0_kr12, ⟨f4, f5, f6, rfl, rfl, f9, f10, f11, f13, f14, f16, f27⟩, kh13, kh14, kh15, kh16, kh17, kh18, kh19, kR20, kR21, kR22, kR23, gr, gS, gK, hm8, gU, hn60, hT, hll, hln⟩⟩)

set_option maxHeartbeats 400000 in
set_option maxRecDepth 100000 in
theorem qX10_handleBeginN {X : zX} (hX : X.1.stackTraces = false) {σ : zS} {y : Nat} {w tm cd dn : Int32} {K : zDk} {A S : zDk} {m : Nat} {U : Nat → zDk} {n : Nat} {T : Nat → Int32} {ll : Nat} {ln : Nat → Int32} {hs kf ld dt dc : Int32} {i : Nat} (hM : zMo y w tm cd dn K A S m U n T ll ln hs kf ld dt dc σ) (gA : zGd A) (hi : i < kC A) (hz : zfe (kL A i) 0 (kN A i) = -1) : zMet X mX10_handleBegin yX10_handleBegin 4 0 0 [.ref y, .int (nI i)] σ (zI (fun y_ s => True ∧ zFr σ s (zMq y) ∧ zMo y w tm 2 0 K A S m U n T ll ln hs kf ld dt dc s)) := by
  refine zMet_of (ls := [some (.ref y), some (.int (nI i))]) rfl (by decide +kernel) rfl (fun h => by cases h) hX (Nat.le_of_ble_eq_true rfl) rfl ?_
  obtain ⟨F, g, kp, sv, bf, ip, sg, td, h0, hf, h1, h2, h3, h4, h5, h6, h11, hWa, hC, hX9, hOt, gr, gS, gK, hm8, gU, hn60, hT, hll, hln⟩ := id hM
  obtain ⟨f4, f5, f6, f7, f8, f9, f10, f11, f13, f14, f16, f27⟩ := id hf
  have hA := gA.1
  obtain ⟨r0, r1, rc, rp⟩ := id gr
  obtain ⟨hC8, hP8, hW⟩ := id hA
  have n16 := (hW i (by omega)).1
  refine zr_aload_n dX10_handleBegin_0 rfl ?_
  refine zr_aload_n dX10_handleBegin_1 rfl ?_
  refine zr_iload_n dX10_handleBegin_2 rfl ?_
  refine zr_pVi [.ref y] dX10_handleBegin_3 vX10_131 (qX10_isCase hX (p := nI i) h0 h1 r0 (by omega)) h0 (by decide) (by decide) (by decide) rfl rfl (Nat.le_of_ble_eq_true rfl) (by decide) rfl ?_
  refine zr_if_ne (tgt := 13) dX10_handleBegin_6 (by decide) (fun c_6 => ?_) (fun c_6 => absurd c_6 (fun q => ite10.mp q (isin_y hi (by omega))))
  refine zr_aload_n dX10_handleBegin_13 rfl ?_
  refine zr_iload_n dX10_handleBegin_14 rfl ?_
  refine zr_callVi [.ref y] dX10_handleBegin_15 vX10_171 (qX10_hasOne hX (i := i) h0 h1 gr hA hi hWa) h0 (by decide) (by decide) (by decide) rfl rfl (Nat.le_of_ble_eq_true rfl) (by decide) rfl (fun r1 s1 h_ => ?_)
  obtain ⟨u1, v1, F1, g0, kW1, h7⟩ := h_
  obtain ⟨rfl, -⟩ := h7.resolve_right (fun q => by obtain ⟨a, b, -, -, hb, e5, -⟩ := q; rw [hz] at e5; exact nI_ne b (by omega) e5.symm)
  have kh1 : s1.1 (y + 1) = .inl (0, 82, .inl g) := zFr.get F1 (by omega) h1
  have kh2 : s1.1 (y + 2) = .inl (0, 656, .inl kp) := zFr.get F1 (by omega) h2
  have kh3 : s1.1 (y + 3) = .inl (0, 82, .inl sv) := zFr.get F1 (by omega) h3
  have kh4 : s1.1 (y + 4) = .inl (0, 82, .inl bf) := zFr.get F1 (by omega) h4
  have kh5 : s1.1 (y + 5) = .inl (0, 60, .inl ip) := zFr.get F1 (by omega) h5
  have kh6 : s1.1 (y + 6) = .inl (1, 400, .inl sg) := zFr.get F1 (by omega) h6
  have kh7 : s1.1 (y + 11) = .inl (0, 93, .inl td) := zFr.get F1 (by omega) h11
  have kR8 := zCy.fr hC F1 (by intro q a b c; omega)
  have kR9 := zXa.fr hX9 F1 (by intro q a b c; omega)
  have kR10 := zOa.fr hOt F1 (by intro q a b c; omega)
  have kF11 := zFr.tr zFr.rf (P := zMq y) F1 (by intro q hq; unfold zMq; omega)
  refine zr_if_eq (tgt := 25) dX10_handleBegin_18 (by decide) (fun c_18 => ?_) (fun c_18 => absurd (by decide) c_18)
  refine zr_iconst (v := 2) dX10_handleBegin_25 (by decide) ?_
  refine zr_callVi [] dX10_handleBegin_26 vX10_135 (qX10_fails hX (p := 2) g0) g0 (by decide) (by decide) (by decide) rfl rfl (Nat.le_of_ble_eq_true rfl) (by decide) rfl (fun kr12 s_kr12 h_kr12 => ?_)
  obtain ⟨e_kr12, F_kr12, g0_kr12⟩ := h_kr12
  have kh13 : s_kr12.1 (y + 1) = .inl (0, 82, .inl g) := zFr.get F_kr12 (by omega) kh1
  have kh14 : s_kr12.1 (y + 2) = .inl (0, 656, .inl kp) := zFr.get F_kr12 (by omega) kh2
  have kh15 : s_kr12.1 (y + 3) = .inl (0, 82, .inl sv) := zFr.get F_kr12 (by omega) kh3
  have kh16 : s_kr12.1 (y + 4) = .inl (0, 82, .inl bf) := zFr.get F_kr12 (by omega) kh4
  have kh17 : s_kr12.1 (y + 5) = .inl (0, 60, .inl ip) := zFr.get F_kr12 (by omega) kh5
  have kh18 : s_kr12.1 (y + 6) = .inl (1, 400, .inl sg) := zFr.get F_kr12 (by omega) kh6
  have kh19 : s_kr12.1 (y + 11) = .inl (0, 93, .inl td) := zFr.get F_kr12 (by omega) kh7
  have kR20 : zWa y s_kr12 := zWa.fr kW1 F_kr12 (by intro q h1 h2 h3; (try simp only [zIn, zJf] at h3); omega)
  have kR21 : zCy y s_kr12 := zCy.fr kR8 F_kr12 (by intro q h1 h2 h3; (try simp only [zIn, zJf] at h3); omega)
  have kR22 : zXa y s_kr12 := zXa.fr kR9 F_kr12 (by intro q h1 h2 h3; (try simp only [zIn, zJf] at h3); omega)
  have kR23 : zOa y s_kr12 := zOa.fr kR10 F_kr12 (by intro q h1 h2 h3; (try simp only [zIn, zJf] at h3); omega)
  have kF24 := zFr.tr kF11 F_kr12 (by intro q hq; unfold zMq; omega)
  replace e_kr12 := e_kr12.trans (if_neg (by decide) : (_ : Int32) = 1)
  obtain rfl := e_kr12.symm
  refine zr_if_eq (tgt := 36) dX10_handleBegin_29 (by decide) (fun c_29 => absurd c_29 (by decide)) (fun c_29 => ?_)
  refine zr_iconst (v := 0) dX10_handleBegin_32 (by decide) ?_
  refine zr_goto (tgt := 40) dX10_handleBegin_33 (by decide) ?_
  exact zr_ireturn dX10_handleBegin_40 rfl (rfl) (⟨_, rfl, trivial, kF24, ⟨_, _, _, _, _, _, _, _, g0_kr12, ⟨f4, f5, f6, rfl, rfl, f9, f10, f11, f13, f14, f16, f27⟩, kh13, kh14, kh15, kh16, kh17, kh18, kh19, kR20, kR21, kR22, kR23, gr, gS, gK, hm8, gU, hn60, hT, hll, hln⟩⟩)

set_option maxHeartbeats 400000 in
set_option maxRecDepth 100000 in
theorem qX10_handleBeginX {X : zX} (hX : X.1.stackTraces = false) {σ : zS} {y : Nat} {w tm cd dn : Int32} {K : zDk} {A S : zDk} {m : Nat} {U : Nat → zDk} {n : Nat} {T : Nat → Int32} {ll : Nat} {ln : Nat → Int32} {hs kf ld dt dc : Int32} {p : Int32} (hM : zMo y w tm cd dn K A S m U n T ll ln hs kf ld dt dc σ) (gA : zGd A) (hno : ¬ (¬ p < 0 ∧ p < nI (kC A))) : zMet X mX10_handleBegin yX10_handleBegin 4 0 0 [.ref y, .int p] σ (zI (fun y_ s => True ∧ zFr σ s (zMq y) ∧ zMo y w tm 1 0 K A S m U n T ll ln hs kf ld dt dc s)) := by
  refine zMet_of (ls := [some (.ref y), some (.int p)]) rfl (by decide +kernel) rfl (fun h => by cases h) hX (Nat.le_of_ble_eq_true rfl) rfl ?_
  obtain ⟨F, g, kp, sv, bf, ip, sg, td, h0, hf, h1, h2, h3, h4, h5, h6, h11, hWa, hC, hX9, hOt, gr, gS, gK, hm8, gU, hn60, hT, hll, hln⟩ := id hM
  obtain ⟨f4, f5, f6, f7, f8, f9, f10, f11, f13, f14, f16, f27⟩ := id hf
  have hA := gA.1
  obtain ⟨r0, r1, rc, rp⟩ := id gr
  obtain ⟨hC8, hP8, hW⟩ := id hA
  refine zr_aload_n dX10_handleBegin_0 rfl ?_
  refine zr_aload_n dX10_handleBegin_1 rfl ?_
  refine zr_iload_n dX10_handleBegin_2 rfl ?_
  refine zr_pVi [.ref y] dX10_handleBegin_3 vX10_131 (qX10_isCase hX (p := p) h0 h1 r0 (by omega)) h0 (by decide) (by decide) (by decide) rfl rfl (Nat.le_of_ble_eq_true rfl) (by decide) rfl ?_
  refine zr_if_ne (tgt := 13) dX10_handleBegin_6 (by decide) (fun c_6 => absurd (ite10.mpr hno) c_6) (fun c_6 => ?_)
  refine zr_iconst (v := 1) dX10_handleBegin_9 (by decide) ?_
  refine zr_goto (tgt := 26) dX10_handleBegin_10 (by decide) ?_
  refine zr_callVi [] dX10_handleBegin_26 vX10_135 (qX10_fails hX (p := 1) h0) h0 (by decide) (by decide) (by decide) rfl rfl (Nat.le_of_ble_eq_true rfl) (by decide) rfl (fun kr1 s_kr1 h_kr1 => ?_)
  obtain ⟨e_kr1, F_kr1, g0_kr1⟩ := h_kr1
  have kh2 : s_kr1.1 (y + 1) = .inl (0, 82, .inl g) := zFr.get F_kr1 (by omega) h1
  have kh3 : s_kr1.1 (y + 2) = .inl (0, 656, .inl kp) := zFr.get F_kr1 (by omega) h2
  have kh4 : s_kr1.1 (y + 3) = .inl (0, 82, .inl sv) := zFr.get F_kr1 (by omega) h3
  have kh5 : s_kr1.1 (y + 4) = .inl (0, 82, .inl bf) := zFr.get F_kr1 (by omega) h4
  have kh6 : s_kr1.1 (y + 5) = .inl (0, 60, .inl ip) := zFr.get F_kr1 (by omega) h5
  have kh7 : s_kr1.1 (y + 6) = .inl (1, 400, .inl sg) := zFr.get F_kr1 (by omega) h6
  have kh8 : s_kr1.1 (y + 11) = .inl (0, 93, .inl td) := zFr.get F_kr1 (by omega) h11
  have kR9 : zWa y s_kr1 := zWa.fr hWa F_kr1 (by intro q h1 h2 h3; (try simp only [zIn, zJf] at h3); omega)
  have kR10 : zCy y s_kr1 := zCy.fr hC F_kr1 (by intro q h1 h2 h3; (try simp only [zIn, zJf] at h3); omega)
  have kR11 : zXa y s_kr1 := zXa.fr hX9 F_kr1 (by intro q h1 h2 h3; (try simp only [zIn, zJf] at h3); omega)
  have kR12 : zOa y s_kr1 := zOa.fr hOt F_kr1 (by intro q h1 h2 h3; (try simp only [zIn, zJf] at h3); omega)
  have kF13 := zFr.tr zFr.rf (P := zMq y) F_kr1 (by intro q hq; unfold zMq; omega)
  replace e_kr1 := e_kr1.trans (if_neg (by decide) : (_ : Int32) = 1)
  obtain rfl := e_kr1.symm
  refine zr_if_eq (tgt := 36) dX10_handleBegin_29 (by decide) (fun c_29 => absurd c_29 (by decide)) (fun c_29 => ?_)
  refine zr_iconst (v := 0) dX10_handleBegin_32 (by decide) ?_
  refine zr_goto (tgt := 40) dX10_handleBegin_33 (by decide) ?_
  exact zr_ireturn dX10_handleBegin_40 rfl (rfl) (⟨_, rfl, trivial, kF13, ⟨_, _, _, _, _, _, _, _, g0_kr1, ⟨f4, f5, f6, rfl, rfl, f9, f10, f11, f13, f14, f16, f27⟩, kh2, kh3, kh4, kh5, kh6, kh7, kh8, kR9, kR10, kR11, kR12, gr, gS, gK, hm8, gU, hn60, hT, hll, hln⟩⟩)

set_option maxHeartbeats 400000 in
set_option maxRecDepth 100000 in
theorem qX10_handleEnd {X : zX} (hX : X.1.stackTraces = false) {σ : zS} {y : Nat} {w tm cd dn : Int32} {K : zDk} {A S : zDk} {m : Nat} {U : Nat → zDk} {n : Nat} {T : Nat → Int32} {ll : Nat} {ln : Nat → Int32} {hs kf ld dt dc : Int32} {i e : Nat} (hM : zMo y w tm cd dn K A S m U n T ll ln hs kf ld dt dc σ) (gA : zGd A) (hi : i < kC A) (he : zfe (kL A i) 0 (kN A i) = nI e) (hen : e < kN A i) : zMet X mX10_handleEnd yX10_handleEnd 4 0 0 [.ref y, .int (nI i)] σ (zI (fun y_ s => y_ = zfe (kL A i) 0 (kN A i) ∧ zFr σ s (zMq y) ∧ zMo y w tm 0 0 K A S m U n T ll ln hs kf ld dt dc s)) := by
  refine zMet_of (ls := [some (.ref y), some (.int (nI i))]) rfl (by decide +kernel) rfl (fun h => by cases h) hX (Nat.le_of_ble_eq_true rfl) rfl ?_
  obtain ⟨F, g, kp, sv, bf, ip, sg, td, h0, hf, h1, h2, h3, h4, h5, h6, h11, hWa, hC, hX9, hOt, gr, gS, gK, hm8, gU, hn60, hT, hll, hln⟩ := id hM
  obtain ⟨f4, f5, f6, f7, f8, f9, f10, f11, f13, f14, f16, f27⟩ := id hf
  have hA := gA.1
  obtain ⟨r0, r1, rc, rp⟩ := id gr
  obtain ⟨hC8, hP8, hW⟩ := id hA
  have n16 := (hW i (by omega)).1
  refine zr_aload_n dX10_handleEnd_0 rfl ?_
  refine zr_aload_n dX10_handleEnd_1 rfl ?_
  refine zr_iload_n dX10_handleEnd_2 rfl ?_
  refine zr_pVi [.ref y] dX10_handleEnd_3 vX10_131 (qX10_isCase hX (p := nI i) h0 h1 r0 (by omega)) h0 (by decide) (by decide) (by decide) rfl rfl (Nat.le_of_ble_eq_true rfl) (by decide) rfl ?_
  refine zr_if_ne (tgt := 13) dX10_handleEnd_6 (by decide) (fun c_6 => ?_) (fun c_6 => absurd c_6 (fun q => ite10.mp q (isin_y hi (by omega))))
  refine zr_aload_n dX10_handleEnd_13 rfl ?_
  refine zr_iload_n dX10_handleEnd_14 rfl ?_
  refine zr_callVi [.ref y] dX10_handleEnd_15 vX10_171 (qX10_hasOne hX (i := i) h0 h1 gr hA hi hWa) h0 (by decide) (by decide) (by decide) rfl rfl (Nat.le_of_ble_eq_true rfl) (by decide) rfl (fun r1 s1 h_ => ?_)
  obtain ⟨u1, v1, F1, g0, kW1, h7⟩ := h_
  obtain ⟨a, b, rfl, hab, hb, e5, e6, rfl, rfl⟩ := h7.resolve_left (fun q => by rw [he] at q; exact nI_ne e (by omega) q.2)
  obtain rfl : b = e := (nI_eq (by omega) (by omega)).mp (e5.symm.trans he)
  have kh1 : s1.1 (y + 1) = .inl (0, 82, .inl g) := zFr.get F1 (by omega) h1
  have kh2 : s1.1 (y + 2) = .inl (0, 656, .inl kp) := zFr.get F1 (by omega) h2
  have kh3 : s1.1 (y + 3) = .inl (0, 82, .inl sv) := zFr.get F1 (by omega) h3
  have kh4 : s1.1 (y + 4) = .inl (0, 82, .inl bf) := zFr.get F1 (by omega) h4
  have kh5 : s1.1 (y + 5) = .inl (0, 60, .inl ip) := zFr.get F1 (by omega) h5
  have kh6 : s1.1 (y + 6) = .inl (1, 400, .inl sg) := zFr.get F1 (by omega) h6
  have kh7 : s1.1 (y + 11) = .inl (0, 93, .inl td) := zFr.get F1 (by omega) h11
  have kR8 := zCy.fr hC F1 (by intro q a b c; omega)
  have kR9 := zXa.fr hX9 F1 (by intro q a b c; omega)
  have kR10 := zOa.fr hOt F1 (by intro q a b c; omega)
  have kF11 := zFr.tr zFr.rf (P := zMq y) F1 (by intro q hq; unfold zMq; omega)
  refine zr_if_eq (tgt := 25) dX10_handleEnd_18 (by decide) (fun c_18 => absurd c_18 (by decide)) (fun c_18 => ?_)
  refine zr_iconst (v := 0) dX10_handleEnd_21 (by decide) ?_
  refine zr_goto (tgt := 26) dX10_handleEnd_22 (by decide) ?_
  refine zr_callVi [] dX10_handleEnd_26 vX10_135 (qX10_fails hX (p := 0) g0) g0 (by decide) (by decide) (by decide) rfl rfl (Nat.le_of_ble_eq_true rfl) (by decide) rfl (fun kr12 s_kr12 h_kr12 => ?_)
  obtain ⟨e_kr12, F_kr12, g0_kr12⟩ := h_kr12
  have kh13 : s_kr12.1 (y + 1) = .inl (0, 82, .inl g) := zFr.get F_kr12 (by omega) kh1
  have kh14 : s_kr12.1 (y + 2) = .inl (0, 656, .inl kp) := zFr.get F_kr12 (by omega) kh2
  have kh15 : s_kr12.1 (y + 3) = .inl (0, 82, .inl sv) := zFr.get F_kr12 (by omega) kh3
  have kh16 : s_kr12.1 (y + 4) = .inl (0, 82, .inl bf) := zFr.get F_kr12 (by omega) kh4
  have kh17 : s_kr12.1 (y + 5) = .inl (0, 60, .inl ip) := zFr.get F_kr12 (by omega) kh5
  have kh18 : s_kr12.1 (y + 6) = .inl (1, 400, .inl sg) := zFr.get F_kr12 (by omega) kh6
  have kh19 : s_kr12.1 (y + 11) = .inl (0, 93, .inl td) := zFr.get F_kr12 (by omega) kh7
  have kR20 : zWa y s_kr12 := zWa.fr kW1 F_kr12 (by intro q h1 h2 h3; (try simp only [zIn, zJf] at h3); omega)
  have kR21 : zCy y s_kr12 := zCy.fr kR8 F_kr12 (by intro q h1 h2 h3; (try simp only [zIn, zJf] at h3); omega)
  have kR22 : zXa y s_kr12 := zXa.fr kR9 F_kr12 (by intro q h1 h2 h3; (try simp only [zIn, zJf] at h3); omega)
  have kR23 : zOa y s_kr12 := zOa.fr kR10 F_kr12 (by intro q h1 h2 h3; (try simp only [zIn, zJf] at h3); omega)
  have kF24 := zFr.tr kF11 F_kr12 (by intro q hq; unfold zMq; omega)
  replace e_kr12 := e_kr12.trans (if_pos (by decide) : (_ : Int32) = 0)
  obtain rfl := e_kr12.symm
  refine zr_if_eq (tgt := 36) dX10_handleEnd_29 (by decide) (fun c_29 => ?_) (fun c_29 => absurd (by decide) c_29)
  refine zr_aload_n dX10_handleEnd_36 rfl ?_
  refine zr_getM (v := .int (nI b)) dX10_handleEnd_37 fX10_94 g0_kr12 rfl ?_
  exact zr_ireturn dX10_handleEnd_40 rfl (rfl) (⟨_, rfl, e5.symm, kF24, ⟨_, _, _, _, _, _, _, _, g0_kr12, ⟨f4, f5, f6, rfl, rfl, f9, f10, f11, f13, f14, f16, f27⟩, kh13, kh14, kh15, kh16, kh17, kh18, kh19, kR20, kR21, kR22, kR23, gr, gS, gK, hm8, gU, hn60, hT, hll, hln⟩⟩)

set_option maxHeartbeats 400000 in
set_option maxRecDepth 100000 in
theorem qX10_handleEndN {X : zX} (hX : X.1.stackTraces = false) {σ : zS} {y : Nat} {w tm cd dn : Int32} {K : zDk} {A S : zDk} {m : Nat} {U : Nat → zDk} {n : Nat} {T : Nat → Int32} {ll : Nat} {ln : Nat → Int32} {hs kf ld dt dc : Int32} {i : Nat} (hM : zMo y w tm cd dn K A S m U n T ll ln hs kf ld dt dc σ) (gA : zGd A) (hi : i < kC A) (hz : zfe (kL A i) 0 (kN A i) = -1) : zMet X mX10_handleEnd yX10_handleEnd 4 0 0 [.ref y, .int (nI i)] σ (zI (fun y_ s => True ∧ zFr σ s (zMq y) ∧ zMo y w tm 2 0 K A S m U n T ll ln hs kf ld dt dc s)) := by
  refine zMet_of (ls := [some (.ref y), some (.int (nI i))]) rfl (by decide +kernel) rfl (fun h => by cases h) hX (Nat.le_of_ble_eq_true rfl) rfl ?_
  obtain ⟨F, g, kp, sv, bf, ip, sg, td, h0, hf, h1, h2, h3, h4, h5, h6, h11, hWa, hC, hX9, hOt, gr, gS, gK, hm8, gU, hn60, hT, hll, hln⟩ := id hM
  obtain ⟨f4, f5, f6, f7, f8, f9, f10, f11, f13, f14, f16, f27⟩ := id hf
  have hA := gA.1
  obtain ⟨r0, r1, rc, rp⟩ := id gr
  obtain ⟨hC8, hP8, hW⟩ := id hA
  have n16 := (hW i (by omega)).1
  refine zr_aload_n dX10_handleEnd_0 rfl ?_
  refine zr_aload_n dX10_handleEnd_1 rfl ?_
  refine zr_iload_n dX10_handleEnd_2 rfl ?_
  refine zr_pVi [.ref y] dX10_handleEnd_3 vX10_131 (qX10_isCase hX (p := nI i) h0 h1 r0 (by omega)) h0 (by decide) (by decide) (by decide) rfl rfl (Nat.le_of_ble_eq_true rfl) (by decide) rfl ?_
  refine zr_if_ne (tgt := 13) dX10_handleEnd_6 (by decide) (fun c_6 => ?_) (fun c_6 => absurd c_6 (fun q => ite10.mp q (isin_y hi (by omega))))
  refine zr_aload_n dX10_handleEnd_13 rfl ?_
  refine zr_iload_n dX10_handleEnd_14 rfl ?_
  refine zr_callVi [.ref y] dX10_handleEnd_15 vX10_171 (qX10_hasOne hX (i := i) h0 h1 gr hA hi hWa) h0 (by decide) (by decide) (by decide) rfl rfl (Nat.le_of_ble_eq_true rfl) (by decide) rfl (fun r1 s1 h_ => ?_)
  obtain ⟨u1, v1, F1, g0, kW1, h7⟩ := h_
  obtain ⟨rfl, -⟩ := h7.resolve_right (fun q => by obtain ⟨a, b, -, -, hb, e5, -⟩ := q; rw [hz] at e5; exact nI_ne b (by omega) e5.symm)
  have kh1 : s1.1 (y + 1) = .inl (0, 82, .inl g) := zFr.get F1 (by omega) h1
  have kh2 : s1.1 (y + 2) = .inl (0, 656, .inl kp) := zFr.get F1 (by omega) h2
  have kh3 : s1.1 (y + 3) = .inl (0, 82, .inl sv) := zFr.get F1 (by omega) h3
  have kh4 : s1.1 (y + 4) = .inl (0, 82, .inl bf) := zFr.get F1 (by omega) h4
  have kh5 : s1.1 (y + 5) = .inl (0, 60, .inl ip) := zFr.get F1 (by omega) h5
  have kh6 : s1.1 (y + 6) = .inl (1, 400, .inl sg) := zFr.get F1 (by omega) h6
  have kh7 : s1.1 (y + 11) = .inl (0, 93, .inl td) := zFr.get F1 (by omega) h11
  have kR8 := zCy.fr hC F1 (by intro q a b c; omega)
  have kR9 := zXa.fr hX9 F1 (by intro q a b c; omega)
  have kR10 := zOa.fr hOt F1 (by intro q a b c; omega)
  have kF11 := zFr.tr zFr.rf (P := zMq y) F1 (by intro q hq; unfold zMq; omega)
  refine zr_if_eq (tgt := 25) dX10_handleEnd_18 (by decide) (fun c_18 => ?_) (fun c_18 => absurd (by decide) c_18)
  refine zr_iconst (v := 2) dX10_handleEnd_25 (by decide) ?_
  refine zr_callVi [] dX10_handleEnd_26 vX10_135 (qX10_fails hX (p := 2) g0) g0 (by decide) (by decide) (by decide) rfl rfl (Nat.le_of_ble_eq_true rfl) (by decide) rfl (fun kr12 s_kr12 h_kr12 => ?_)
  obtain ⟨e_kr12, F_kr12, g0_kr12⟩ := h_kr12
  have kh13 : s_kr12.1 (y + 1) = .inl (0, 82, .inl g) := zFr.get F_kr12 (by omega) kh1
  have kh14 : s_kr12.1 (y + 2) = .inl (0, 656, .inl kp) := zFr.get F_kr12 (by omega) kh2
  have kh15 : s_kr12.1 (y + 3) = .inl (0, 82, .inl sv) := zFr.get F_kr12 (by omega) kh3
  have kh16 : s_kr12.1 (y + 4) = .inl (0, 82, .inl bf) := zFr.get F_kr12 (by omega) kh4
  have kh17 : s_kr12.1 (y + 5) = .inl (0, 60, .inl ip) := zFr.get F_kr12 (by omega) kh5
  have kh18 : s_kr12.1 (y + 6) = .inl (1, 400, .inl sg) := zFr.get F_kr12 (by omega) kh6
  have kh19 : s_kr12.1 (y + 11) = .inl (0, 93, .inl td) := zFr.get F_kr12 (by omega) kh7
  have kR20 : zWa y s_kr12 := zWa.fr kW1 F_kr12 (by intro q h1 h2 h3; (try simp only [zIn, zJf] at h3); omega)
  have kR21 : zCy y s_kr12 := zCy.fr kR8 F_kr12 (by intro q h1 h2 h3; (try simp only [zIn, zJf] at h3); omega)
  have kR22 : zXa y s_kr12 := zXa.fr kR9 F_kr12 (by intro q h1 h2 h3; (try simp only [zIn, zJf] at h3); omega)
  have kR23 : zOa y s_kr12 := zOa.fr kR10 F_kr12 (by intro q h1 h2 h3; (try simp only [zIn, zJf] at h3); omega)
  have kF24 := zFr.tr kF11 F_kr12 (by intro q hq; unfold zMq; omega)
  replace e_kr12 := e_kr12.trans (if_neg (by decide) : (_ : Int32) = 1)
  obtain rfl := e_kr12.symm
  refine zr_if_eq (tgt := 36) dX10_handleEnd_29 (by decide) (fun c_29 => absurd c_29 (by decide)) (fun c_29 => ?_)
  refine zr_iconst (v := 0) dX10_handleEnd_32 (by decide) ?_
  refine zr_goto (tgt := 40) dX10_handleEnd_33 (by decide) ?_
  exact zr_ireturn dX10_handleEnd_40 rfl (rfl) (⟨_, rfl, trivial, kF24, ⟨_, _, _, _, _, _, _, _, g0_kr12, ⟨f4, f5, f6, rfl, rfl, f9, f10, f11, f13, f14, f16, f27⟩, kh13, kh14, kh15, kh16, kh17, kh18, kh19, kR20, kR21, kR22, kR23, gr, gS, gK, hm8, gU, hn60, hT, hll, hln⟩⟩)

set_option maxHeartbeats 400000 in
set_option maxRecDepth 100000 in
theorem qX10_handleEndX {X : zX} (hX : X.1.stackTraces = false) {σ : zS} {y : Nat} {w tm cd dn : Int32} {K : zDk} {A S : zDk} {m : Nat} {U : Nat → zDk} {n : Nat} {T : Nat → Int32} {ll : Nat} {ln : Nat → Int32} {hs kf ld dt dc : Int32} {p : Int32} (hM : zMo y w tm cd dn K A S m U n T ll ln hs kf ld dt dc σ) (gA : zGd A) (hno : ¬ (¬ p < 0 ∧ p < nI (kC A))) : zMet X mX10_handleEnd yX10_handleEnd 4 0 0 [.ref y, .int p] σ (zI (fun y_ s => True ∧ zFr σ s (zMq y) ∧ zMo y w tm 1 0 K A S m U n T ll ln hs kf ld dt dc s)) := by
  refine zMet_of (ls := [some (.ref y), some (.int p)]) rfl (by decide +kernel) rfl (fun h => by cases h) hX (Nat.le_of_ble_eq_true rfl) rfl ?_
  obtain ⟨F, g, kp, sv, bf, ip, sg, td, h0, hf, h1, h2, h3, h4, h5, h6, h11, hWa, hC, hX9, hOt, gr, gS, gK, hm8, gU, hn60, hT, hll, hln⟩ := id hM
  obtain ⟨f4, f5, f6, f7, f8, f9, f10, f11, f13, f14, f16, f27⟩ := id hf
  have hA := gA.1
  obtain ⟨r0, r1, rc, rp⟩ := id gr
  obtain ⟨hC8, hP8, hW⟩ := id hA
  refine zr_aload_n dX10_handleEnd_0 rfl ?_
  refine zr_aload_n dX10_handleEnd_1 rfl ?_
  refine zr_iload_n dX10_handleEnd_2 rfl ?_
  refine zr_pVi [.ref y] dX10_handleEnd_3 vX10_131 (qX10_isCase hX (p := p) h0 h1 r0 (by omega)) h0 (by decide) (by decide) (by decide) rfl rfl (Nat.le_of_ble_eq_true rfl) (by decide) rfl ?_
  refine zr_if_ne (tgt := 13) dX10_handleEnd_6 (by decide) (fun c_6 => absurd (ite10.mpr hno) c_6) (fun c_6 => ?_)
  refine zr_iconst (v := 1) dX10_handleEnd_9 (by decide) ?_
  refine zr_goto (tgt := 26) dX10_handleEnd_10 (by decide) ?_
  refine zr_callVi [] dX10_handleEnd_26 vX10_135 (qX10_fails hX (p := 1) h0) h0 (by decide) (by decide) (by decide) rfl rfl (Nat.le_of_ble_eq_true rfl) (by decide) rfl (fun kr1 s_kr1 h_kr1 => ?_)
  obtain ⟨e_kr1, F_kr1, g0_kr1⟩ := h_kr1
  have kh2 : s_kr1.1 (y + 1) = .inl (0, 82, .inl g) := zFr.get F_kr1 (by omega) h1
  have kh3 : s_kr1.1 (y + 2) = .inl (0, 656, .inl kp) := zFr.get F_kr1 (by omega) h2
  have kh4 : s_kr1.1 (y + 3) = .inl (0, 82, .inl sv) := zFr.get F_kr1 (by omega) h3
  have kh5 : s_kr1.1 (y + 4) = .inl (0, 82, .inl bf) := zFr.get F_kr1 (by omega) h4
  have kh6 : s_kr1.1 (y + 5) = .inl (0, 60, .inl ip) := zFr.get F_kr1 (by omega) h5
  have kh7 : s_kr1.1 (y + 6) = .inl (1, 400, .inl sg) := zFr.get F_kr1 (by omega) h6
  have kh8 : s_kr1.1 (y + 11) = .inl (0, 93, .inl td) := zFr.get F_kr1 (by omega) h11
  have kR9 : zWa y s_kr1 := zWa.fr hWa F_kr1 (by intro q h1 h2 h3; (try simp only [zIn, zJf] at h3); omega)
  have kR10 : zCy y s_kr1 := zCy.fr hC F_kr1 (by intro q h1 h2 h3; (try simp only [zIn, zJf] at h3); omega)
  have kR11 : zXa y s_kr1 := zXa.fr hX9 F_kr1 (by intro q h1 h2 h3; (try simp only [zIn, zJf] at h3); omega)
  have kR12 : zOa y s_kr1 := zOa.fr hOt F_kr1 (by intro q h1 h2 h3; (try simp only [zIn, zJf] at h3); omega)
  have kF13 := zFr.tr zFr.rf (P := zMq y) F_kr1 (by intro q hq; unfold zMq; omega)
  replace e_kr1 := e_kr1.trans (if_neg (by decide) : (_ : Int32) = 1)
  obtain rfl := e_kr1.symm
  refine zr_if_eq (tgt := 36) dX10_handleEnd_29 (by decide) (fun c_29 => absurd c_29 (by decide)) (fun c_29 => ?_)
  refine zr_iconst (v := 0) dX10_handleEnd_32 (by decide) ?_
  refine zr_goto (tgt := 40) dX10_handleEnd_33 (by decide) ?_
  exact zr_ireturn dX10_handleEnd_40 rfl (rfl) (⟨_, rfl, trivial, kF13, ⟨_, _, _, _, _, _, _, _, g0_kr1, ⟨f4, f5, f6, rfl, rfl, f9, f10, f11, f13, f14, f16, f27⟩, kh2, kh3, kh4, kh5, kh6, kh7, kh8, kR9, kR10, kR11, kR12, gr, gS, gK, hm8, gU, hn60, hT, hll, hln⟩⟩)

set_option maxHeartbeats 400000 in
set_option maxRecDepth 100000 in
theorem qX10_writhe {X : zX} (hX : X.1.stackTraces = false) {σ : zS} {y : Nat} {w tm cd dn : Int32} {K : zDk} {A S : zDk} {m : Nat} {U : Nat → zDk} {n : Nat} {T : Nat → Int32} {ll : Nat} {ln : Nat → Int32} {hs kf ld dt dc : Int32} {i : Nat} (hM : zMo y w tm cd dn K A S m U n T ll ln hs kf ld dt dc σ) (gA : zGd A) (hi : i < kC A) : zMet X mX10_writhe yX10_writhe 3 0 0 [.ref y, .int (nI i)] σ (zI (fun y_ s => y_ = zSum (kL A i) (kN A i) ∧ zFr σ s (zMq y) ∧ zMo y w tm 0 0 K A S m U n T ll ln hs kf ld dt dc s)) := by
  refine zMet_of (ls := [some (.ref y), some (.int (nI i))]) rfl (by decide +kernel) rfl (fun h => by cases h) hX (Nat.le_of_ble_eq_true rfl) rfl ?_
  obtain ⟨F, g, kp, sv, bf, ip, sg, td, h0, hf, h1, h2, h3, h4, h5, h6, h11, hWa, hC, hX9, hOt, gr, gS, gK, hm8, gU, hn60, hT, hll, hln⟩ := id hM
  obtain ⟨f4, f5, f6, f7, f8, f9, f10, f11, f13, f14, f16, f27⟩ := id hf
  have hA := gA.1
  obtain ⟨r0, r1, rc, rp⟩ := id gr
  obtain ⟨hC8, hP8, hW⟩ := id hA
  refine zr_aload_n dX10_writhe_0 rfl ?_
  refine zr_iload_n dX10_writhe_1 rfl ?_
  refine zr_callVi [] dX10_writhe_2 vX10_155 (qX10_isNone hX (i := i) h0 h1 r0 (by omega) hi) h0 (by decide) (by decide) (by decide) rfl rfl (Nat.le_of_ble_eq_true rfl) (by decide) rfl (fun kr1 s_kr1 h_kr1 => ?_)
  obtain ⟨e_kr1, F_kr1, g0_kr1⟩ := h_kr1
  have kh2 : s_kr1.1 (y + 1) = .inl (0, 82, .inl g) := zFr.get F_kr1 (by omega) h1
  have kh3 : s_kr1.1 (y + 2) = .inl (0, 656, .inl kp) := zFr.get F_kr1 (by omega) h2
  have kh4 : s_kr1.1 (y + 3) = .inl (0, 82, .inl sv) := zFr.get F_kr1 (by omega) h3
  have kh5 : s_kr1.1 (y + 4) = .inl (0, 82, .inl bf) := zFr.get F_kr1 (by omega) h4
  have kh6 : s_kr1.1 (y + 5) = .inl (0, 60, .inl ip) := zFr.get F_kr1 (by omega) h5
  have kh7 : s_kr1.1 (y + 6) = .inl (1, 400, .inl sg) := zFr.get F_kr1 (by omega) h6
  have kh8 : s_kr1.1 (y + 11) = .inl (0, 93, .inl td) := zFr.get F_kr1 (by omega) h11
  have kR9 : zWa y s_kr1 := zWa.fr hWa F_kr1 (by intro q h1 h2 h3; (try simp only [zIn, zJf] at h3); omega)
  have kR10 : zCy y s_kr1 := zCy.fr hC F_kr1 (by intro q h1 h2 h3; (try simp only [zIn, zJf] at h3); omega)
  have kR11 : zXa y s_kr1 := zXa.fr hX9 F_kr1 (by intro q h1 h2 h3; (try simp only [zIn, zJf] at h3); omega)
  have kR12 : zOa y s_kr1 := zOa.fr hOt F_kr1 (by intro q h1 h2 h3; (try simp only [zIn, zJf] at h3); omega)
  have kF13 := zFr.tr zFr.rf (P := zMq y) F_kr1 (by intro q hq; unfold zMq; omega)
  obtain rfl := e_kr1.symm
  refine zr_if_eq (tgt := 12) dX10_writhe_5 (by decide) (fun c_5 => ?_) (fun c_5 => absurd (by decide) c_5)
  refine zr_aload_n dX10_writhe_12 rfl ?_
  refine zr_iload_n dX10_writhe_13 rfl ?_
  refine zr_pVi [] dX10_writhe_14 vX10_177 (qX10_twist hX (i := i) g0_kr1 kh2 gr hA (by omega)) g0_kr1 (by decide) (by decide) (by decide) rfl rfl (Nat.le_of_ble_eq_true rfl) (by decide) rfl ?_
  exact zr_ireturn dX10_writhe_17 rfl (rfl) (⟨_, rfl, rfl, kF13, ⟨_, _, _, _, _, _, _, _, g0_kr1, ⟨f4, f5, f6, rfl, rfl, f9, f10, f11, f13, f14, f16, f27⟩, kh2, kh3, kh4, kh5, kh6, kh7, kh8, kR9, kR10, kR11, kR12, gr, gS, gK, hm8, gU, hn60, hT, hll, hln⟩⟩)

set_option maxHeartbeats 400000 in
set_option maxRecDepth 100000 in
theorem qX10_writheX {X : zX} (hX : X.1.stackTraces = false) {σ : zS} {y : Nat} {w tm cd dn : Int32} {K : zDk} {A S : zDk} {m : Nat} {U : Nat → zDk} {n : Nat} {T : Nat → Int32} {ll : Nat} {ln : Nat → Int32} {hs kf ld dt dc : Int32} {p : Int32} (hM : zMo y w tm cd dn K A S m U n T ll ln hs kf ld dt dc σ) (gA : zGd A) (hno : ¬ (¬ p < 0 ∧ p < nI (kC A))) : zMet X mX10_writhe yX10_writhe 4 0 0 [.ref y, .int p] σ (zI (fun y_ s => True ∧ zFr σ s (zMq y) ∧ zMo y w tm 1 0 K A S m U n T ll ln hs kf ld dt dc s)) := by
  refine zMet_of (ls := [some (.ref y), some (.int p)]) rfl (by decide +kernel) rfl (fun h => by cases h) hX (Nat.le_of_ble_eq_true rfl) rfl ?_
  obtain ⟨F, g, kp, sv, bf, ip, sg, td, h0, hf, h1, h2, h3, h4, h5, h6, h11, hWa, hC, hX9, hOt, gr, gS, gK, hm8, gU, hn60, hT, hll, hln⟩ := id hM
  obtain ⟨f4, f5, f6, f7, f8, f9, f10, f11, f13, f14, f16, f27⟩ := id hf
  have hA := gA.1
  obtain ⟨r0, r1, rc, rp⟩ := id gr
  obtain ⟨hC8, hP8, hW⟩ := id hA
  refine zr_aload_n dX10_writhe_0 rfl ?_
  refine zr_iload_n dX10_writhe_1 rfl ?_
  refine zr_callVi [] dX10_writhe_2 vX10_155 (qX10_isNoneX hX h0 h1 r0 (by omega) hno) h0 (by decide) (by decide) (by decide) rfl rfl (Nat.le_of_ble_eq_true rfl) (by decide) rfl (fun kr1 s_kr1 h_kr1 => ?_)
  obtain ⟨e_kr1, F_kr1, g0_kr1⟩ := h_kr1
  have kh2 : s_kr1.1 (y + 1) = .inl (0, 82, .inl g) := zFr.get F_kr1 (by omega) h1
  have kh3 : s_kr1.1 (y + 2) = .inl (0, 656, .inl kp) := zFr.get F_kr1 (by omega) h2
  have kh4 : s_kr1.1 (y + 3) = .inl (0, 82, .inl sv) := zFr.get F_kr1 (by omega) h3
  have kh5 : s_kr1.1 (y + 4) = .inl (0, 82, .inl bf) := zFr.get F_kr1 (by omega) h4
  have kh6 : s_kr1.1 (y + 5) = .inl (0, 60, .inl ip) := zFr.get F_kr1 (by omega) h5
  have kh7 : s_kr1.1 (y + 6) = .inl (1, 400, .inl sg) := zFr.get F_kr1 (by omega) h6
  have kh8 : s_kr1.1 (y + 11) = .inl (0, 93, .inl td) := zFr.get F_kr1 (by omega) h11
  have kR9 : zWa y s_kr1 := zWa.fr hWa F_kr1 (by intro q h1 h2 h3; (try simp only [zIn, zJf] at h3); omega)
  have kR10 : zCy y s_kr1 := zCy.fr hC F_kr1 (by intro q h1 h2 h3; (try simp only [zIn, zJf] at h3); omega)
  have kR11 : zXa y s_kr1 := zXa.fr hX9 F_kr1 (by intro q h1 h2 h3; (try simp only [zIn, zJf] at h3); omega)
  have kR12 : zOa y s_kr1 := zOa.fr hOt F_kr1 (by intro q h1 h2 h3; (try simp only [zIn, zJf] at h3); omega)
  have kF13 := zFr.tr zFr.rf (P := zMq y) F_kr1 (by intro q hq; unfold zMq; omega)
  obtain rfl := e_kr1.symm
  refine zr_if_eq (tgt := 12) dX10_writhe_5 (by decide) (fun c_5 => absurd c_5 (by decide)) (fun c_5 => ?_)
  refine zr_iconst (v := 0) dX10_writhe_8 (by decide) ?_
  refine zr_goto (tgt := 17) dX10_writhe_9 (by decide) ?_
  exact zr_ireturn dX10_writhe_17 rfl (rfl) (⟨_, rfl, trivial, kF13, ⟨_, _, _, _, _, _, _, _, g0_kr1, ⟨f4, f5, f6, rfl, rfl, f9, f10, f11, f13, f14, f16, f27⟩, kh2, kh3, kh4, kh5, kh6, kh7, kh8, kR9, kR10, kR11, kR12, gr, gS, gK, hm8, gU, hn60, hT, hll, hln⟩⟩)

set_option maxHeartbeats 400000 in
set_option maxRecDepth 100000 in
theorem qX10_strandEnd {X : zX} (hX : X.1.stackTraces = false) {σ : zS} {y : Nat} {w tm cd dn : Int32} {K : zDk} {A S : zDk} {m : Nat} {U : Nat → zDk} {n : Nat} {T : Nat → Int32} {ll : Nat} {ln : Nat → Int32} {hs kf ld dt dc : Int32} {i : Nat} {p : Int32} (hM : zMo y w tm cd dn K A S m U n T ll ln hs kf ld dt dc σ) (gA : zGd A) (hi : i < kC A) (hp : 1 ≤ p ∧ p ≤ 5) : zMet X mX10_strandEnd yX10_strandEnd 3 0 0 [.ref y, .int (nI i), .int p] σ (zI (fun y_ s => y_ = zEnd (kL A i) p (kN A i) ∧ zFr σ s (zMq y) ∧ zMo y w tm 0 0 K A S m U n T ll ln hs kf ld dt dc s)) := by
  refine zMet_of (ls := [some (.ref y), some (.int (nI i)), some (.int p)]) rfl (by decide +kernel) rfl (fun h => by cases h) hX (Nat.le_of_ble_eq_true rfl) rfl ?_
  obtain ⟨F, g, kp, sv, bf, ip, sg, td, h0, hf, h1, h2, h3, h4, h5, h6, h11, hWa, hC, hX9, hOt, gr, gS, gK, hm8, gU, hn60, hT, hll, hln⟩ := id hM
  obtain ⟨f4, f5, f6, f7, f8, f9, f10, f11, f13, f14, f16, f27⟩ := id hf
  have hA := gA.1
  obtain ⟨r0, r1, rc, rp⟩ := id gr
  obtain ⟨hC8, hP8, hW⟩ := id hA
  refine zr_aload_n dX10_strandEnd_0 rfl ?_
  refine zr_aload_n dX10_strandEnd_1 rfl ?_
  refine zr_iload_n dX10_strandEnd_2 rfl ?_
  refine zr_pVi [.ref y] dX10_strandEnd_3 vX10_131 (qX10_isCase hX (p := nI i) h0 h1 r0 (by omega)) h0 (by decide) (by decide) (by decide) rfl rfl (Nat.le_of_ble_eq_true rfl) (by decide) rfl ?_
  refine zr_if_ne (tgt := 13) dX10_strandEnd_6 (by decide) (fun c_6 => ?_) (fun c_6 => absurd c_6 (fun q => ite10.mp q (isin_y hi (by omega))))
  refine zr_iload_n dX10_strandEnd_13 rfl ?_
  refine zr_pSi [.ref y] dX10_strandEnd_14 vX10_180 (qX10_isStrand hX (p := p)) (by decide) (by decide) (by decide) rfl rfl (Nat.le_of_ble_eq_true rfl) rfl ?_
  refine zr_if_eq (tgt := 24) dX10_strandEnd_17 (by decide) (fun c_17 => absurd c_17 (fun q => ite10.mp q hp)) (fun c_17 => ?_)
  refine zr_iconst (v := 0) dX10_strandEnd_20 (by decide) ?_
  refine zr_goto (tgt := 25) dX10_strandEnd_21 (by decide) ?_
  refine zr_callVi [] dX10_strandEnd_25 vX10_135 (qX10_fails hX (p := 0) h0) h0 (by decide) (by decide) (by decide) rfl rfl (Nat.le_of_ble_eq_true rfl) (by decide) rfl (fun kr1 s_kr1 h_kr1 => ?_)
  obtain ⟨e_kr1, F_kr1, g0_kr1⟩ := h_kr1
  have kh2 : s_kr1.1 (y + 1) = .inl (0, 82, .inl g) := zFr.get F_kr1 (by omega) h1
  have kh3 : s_kr1.1 (y + 2) = .inl (0, 656, .inl kp) := zFr.get F_kr1 (by omega) h2
  have kh4 : s_kr1.1 (y + 3) = .inl (0, 82, .inl sv) := zFr.get F_kr1 (by omega) h3
  have kh5 : s_kr1.1 (y + 4) = .inl (0, 82, .inl bf) := zFr.get F_kr1 (by omega) h4
  have kh6 : s_kr1.1 (y + 5) = .inl (0, 60, .inl ip) := zFr.get F_kr1 (by omega) h5
  have kh7 : s_kr1.1 (y + 6) = .inl (1, 400, .inl sg) := zFr.get F_kr1 (by omega) h6
  have kh8 : s_kr1.1 (y + 11) = .inl (0, 93, .inl td) := zFr.get F_kr1 (by omega) h11
  have kR9 : zWa y s_kr1 := zWa.fr hWa F_kr1 (by intro q h1 h2 h3; (try simp only [zIn, zJf] at h3); omega)
  have kR10 : zCy y s_kr1 := zCy.fr hC F_kr1 (by intro q h1 h2 h3; (try simp only [zIn, zJf] at h3); omega)
  have kR11 : zXa y s_kr1 := zXa.fr hX9 F_kr1 (by intro q h1 h2 h3; (try simp only [zIn, zJf] at h3); omega)
  have kR12 : zOa y s_kr1 := zOa.fr hOt F_kr1 (by intro q h1 h2 h3; (try simp only [zIn, zJf] at h3); omega)
  have kF13 := zFr.tr zFr.rf (P := zMq y) F_kr1 (by intro q hq; unfold zMq; omega)
  replace e_kr1 := e_kr1.trans (if_pos (by decide) : (_ : Int32) = 0)
  obtain rfl := e_kr1.symm
  refine zr_if_eq (tgt := 35) dX10_strandEnd_28 (by decide) (fun c_28 => ?_) (fun c_28 => absurd (by decide) c_28)
  refine zr_aload_n dX10_strandEnd_35 rfl ?_
  refine zr_iload_n dX10_strandEnd_36 rfl ?_
  refine zr_iload_n dX10_strandEnd_37 rfl ?_
  refine zr_pVi [] dX10_strandEnd_38 vX10_183 (qX10_end hX (i := i) (p := p) g0_kr1 kh2 gr hA (by omega)) g0_kr1 (by decide) (by decide) (by decide) rfl rfl (Nat.le_of_ble_eq_true rfl) (by decide) rfl ?_
  exact zr_ireturn dX10_strandEnd_41 rfl (rfl) (⟨_, rfl, rfl, kF13, ⟨_, _, _, _, _, _, _, _, g0_kr1, ⟨f4, f5, f6, rfl, rfl, f9, f10, f11, f13, f14, f16, f27⟩, kh2, kh3, kh4, kh5, kh6, kh7, kh8, kR9, kR10, kR11, kR12, gr, gS, gK, hm8, gU, hn60, hT, hll, hln⟩⟩)

set_option maxHeartbeats 400000 in
set_option maxRecDepth 100000 in
theorem qX10_strandEndN {X : zX} (hX : X.1.stackTraces = false) {σ : zS} {y : Nat} {w tm cd dn : Int32} {K : zDk} {A S : zDk} {m : Nat} {U : Nat → zDk} {n : Nat} {T : Nat → Int32} {ll : Nat} {ln : Nat → Int32} {hs kf ld dt dc : Int32} {i : Nat} {p : Int32} (hM : zMo y w tm cd dn K A S m U n T ll ln hs kf ld dt dc σ) (gA : zGd A) (hi : i < kC A) (hp : ¬ (1 ≤ p ∧ p ≤ 5)) : zMet X mX10_strandEnd yX10_strandEnd 3 0 0 [.ref y, .int (nI i), .int p] σ (zI (fun y_ s => True ∧ zFr σ s (zMq y) ∧ zMo y w tm 2 0 K A S m U n T ll ln hs kf ld dt dc s)) := by
  refine zMet_of (ls := [some (.ref y), some (.int (nI i)), some (.int p)]) rfl (by decide +kernel) rfl (fun h => by cases h) hX (Nat.le_of_ble_eq_true rfl) rfl ?_
  obtain ⟨F, g, kp, sv, bf, ip, sg, td, h0, hf, h1, h2, h3, h4, h5, h6, h11, hWa, hC, hX9, hOt, gr, gS, gK, hm8, gU, hn60, hT, hll, hln⟩ := id hM
  obtain ⟨f4, f5, f6, f7, f8, f9, f10, f11, f13, f14, f16, f27⟩ := id hf
  have hA := gA.1
  obtain ⟨r0, r1, rc, rp⟩ := id gr
  obtain ⟨hC8, hP8, hW⟩ := id hA
  refine zr_aload_n dX10_strandEnd_0 rfl ?_
  refine zr_aload_n dX10_strandEnd_1 rfl ?_
  refine zr_iload_n dX10_strandEnd_2 rfl ?_
  refine zr_pVi [.ref y] dX10_strandEnd_3 vX10_131 (qX10_isCase hX (p := nI i) h0 h1 r0 (by omega)) h0 (by decide) (by decide) (by decide) rfl rfl (Nat.le_of_ble_eq_true rfl) (by decide) rfl ?_
  refine zr_if_ne (tgt := 13) dX10_strandEnd_6 (by decide) (fun c_6 => ?_) (fun c_6 => absurd c_6 (fun q => ite10.mp q (isin_y hi (by omega))))
  refine zr_iload_n dX10_strandEnd_13 rfl ?_
  refine zr_pSi [.ref y] dX10_strandEnd_14 vX10_180 (qX10_isStrand hX (p := p)) (by decide) (by decide) (by decide) rfl rfl (Nat.le_of_ble_eq_true rfl) rfl ?_
  refine zr_if_eq (tgt := 24) dX10_strandEnd_17 (by decide) (fun c_17 => ?_) (fun c_17 => absurd (ite10.mpr hp) c_17)
  refine zr_iconst (v := 2) dX10_strandEnd_24 (by decide) ?_
  refine zr_callVi [] dX10_strandEnd_25 vX10_135 (qX10_fails hX (p := 2) h0) h0 (by decide) (by decide) (by decide) rfl rfl (Nat.le_of_ble_eq_true rfl) (by decide) rfl (fun kr1 s_kr1 h_kr1 => ?_)
  obtain ⟨e_kr1, F_kr1, g0_kr1⟩ := h_kr1
  have kh2 : s_kr1.1 (y + 1) = .inl (0, 82, .inl g) := zFr.get F_kr1 (by omega) h1
  have kh3 : s_kr1.1 (y + 2) = .inl (0, 656, .inl kp) := zFr.get F_kr1 (by omega) h2
  have kh4 : s_kr1.1 (y + 3) = .inl (0, 82, .inl sv) := zFr.get F_kr1 (by omega) h3
  have kh5 : s_kr1.1 (y + 4) = .inl (0, 82, .inl bf) := zFr.get F_kr1 (by omega) h4
  have kh6 : s_kr1.1 (y + 5) = .inl (0, 60, .inl ip) := zFr.get F_kr1 (by omega) h5
  have kh7 : s_kr1.1 (y + 6) = .inl (1, 400, .inl sg) := zFr.get F_kr1 (by omega) h6
  have kh8 : s_kr1.1 (y + 11) = .inl (0, 93, .inl td) := zFr.get F_kr1 (by omega) h11
  have kR9 : zWa y s_kr1 := zWa.fr hWa F_kr1 (by intro q h1 h2 h3; (try simp only [zIn, zJf] at h3); omega)
  have kR10 : zCy y s_kr1 := zCy.fr hC F_kr1 (by intro q h1 h2 h3; (try simp only [zIn, zJf] at h3); omega)
  have kR11 : zXa y s_kr1 := zXa.fr hX9 F_kr1 (by intro q h1 h2 h3; (try simp only [zIn, zJf] at h3); omega)
  have kR12 : zOa y s_kr1 := zOa.fr hOt F_kr1 (by intro q h1 h2 h3; (try simp only [zIn, zJf] at h3); omega)
  have kF13 := zFr.tr zFr.rf (P := zMq y) F_kr1 (by intro q hq; unfold zMq; omega)
  replace e_kr1 := e_kr1.trans (if_neg (by decide) : (_ : Int32) = 1)
  obtain rfl := e_kr1.symm
  refine zr_if_eq (tgt := 35) dX10_strandEnd_28 (by decide) (fun c_28 => absurd c_28 (by decide)) (fun c_28 => ?_)
  refine zr_iconst (v := 0) dX10_strandEnd_31 (by decide) ?_
  refine zr_goto (tgt := 41) dX10_strandEnd_32 (by decide) ?_
  exact zr_ireturn dX10_strandEnd_41 rfl (rfl) (⟨_, rfl, trivial, kF13, ⟨_, _, _, _, _, _, _, _, g0_kr1, ⟨f4, f5, f6, rfl, rfl, f9, f10, f11, f13, f14, f16, f27⟩, kh2, kh3, kh4, kh5, kh6, kh7, kh8, kR9, kR10, kR11, kR12, gr, gS, gK, hm8, gU, hn60, hT, hll, hln⟩⟩)

set_option maxHeartbeats 400000 in
set_option maxRecDepth 100000 in
theorem qX10_strandEndX {X : zX} (hX : X.1.stackTraces = false) {σ : zS} {y : Nat} {w tm cd dn : Int32} {K : zDk} {A S : zDk} {m : Nat} {U : Nat → zDk} {n : Nat} {T : Nat → Int32} {ll : Nat} {ln : Nat → Int32} {hs kf ld dt dc : Int32} {p : Int32} {p2 : Int32} (hM : zMo y w tm cd dn K A S m U n T ll ln hs kf ld dt dc σ) (gA : zGd A) (hno : ¬ (¬ p < 0 ∧ p < nI (kC A))) : zMet X mX10_strandEnd yX10_strandEnd 3 0 0 [.ref y, .int p, .int p2] σ (zI (fun y_ s => True ∧ zFr σ s (zMq y) ∧ zMo y w tm 1 0 K A S m U n T ll ln hs kf ld dt dc s)) := by
  refine zMet_of (ls := [some (.ref y), some (.int p), some (.int p2)]) rfl (by decide +kernel) rfl (fun h => by cases h) hX (Nat.le_of_ble_eq_true rfl) rfl ?_
  obtain ⟨F, g, kp, sv, bf, ip, sg, td, h0, hf, h1, h2, h3, h4, h5, h6, h11, hWa, hC, hX9, hOt, gr, gS, gK, hm8, gU, hn60, hT, hll, hln⟩ := id hM
  obtain ⟨f4, f5, f6, f7, f8, f9, f10, f11, f13, f14, f16, f27⟩ := id hf
  have hA := gA.1
  obtain ⟨r0, r1, rc, rp⟩ := id gr
  obtain ⟨hC8, hP8, hW⟩ := id hA
  refine zr_aload_n dX10_strandEnd_0 rfl ?_
  refine zr_aload_n dX10_strandEnd_1 rfl ?_
  refine zr_iload_n dX10_strandEnd_2 rfl ?_
  refine zr_pVi [.ref y] dX10_strandEnd_3 vX10_131 (qX10_isCase hX (p := p) h0 h1 r0 (by omega)) h0 (by decide) (by decide) (by decide) rfl rfl (Nat.le_of_ble_eq_true rfl) (by decide) rfl ?_
  refine zr_if_ne (tgt := 13) dX10_strandEnd_6 (by decide) (fun c_6 => absurd (ite10.mpr hno) c_6) (fun c_6 => ?_)
  refine zr_iconst (v := 1) dX10_strandEnd_9 (by decide) ?_
  refine zr_goto (tgt := 25) dX10_strandEnd_10 (by decide) ?_
  refine zr_callVi [] dX10_strandEnd_25 vX10_135 (qX10_fails hX (p := 1) h0) h0 (by decide) (by decide) (by decide) rfl rfl (Nat.le_of_ble_eq_true rfl) (by decide) rfl (fun kr1 s_kr1 h_kr1 => ?_)
  obtain ⟨e_kr1, F_kr1, g0_kr1⟩ := h_kr1
  have kh2 : s_kr1.1 (y + 1) = .inl (0, 82, .inl g) := zFr.get F_kr1 (by omega) h1
  have kh3 : s_kr1.1 (y + 2) = .inl (0, 656, .inl kp) := zFr.get F_kr1 (by omega) h2
  have kh4 : s_kr1.1 (y + 3) = .inl (0, 82, .inl sv) := zFr.get F_kr1 (by omega) h3
  have kh5 : s_kr1.1 (y + 4) = .inl (0, 82, .inl bf) := zFr.get F_kr1 (by omega) h4
  have kh6 : s_kr1.1 (y + 5) = .inl (0, 60, .inl ip) := zFr.get F_kr1 (by omega) h5
  have kh7 : s_kr1.1 (y + 6) = .inl (1, 400, .inl sg) := zFr.get F_kr1 (by omega) h6
  have kh8 : s_kr1.1 (y + 11) = .inl (0, 93, .inl td) := zFr.get F_kr1 (by omega) h11
  have kR9 : zWa y s_kr1 := zWa.fr hWa F_kr1 (by intro q h1 h2 h3; (try simp only [zIn, zJf] at h3); omega)
  have kR10 : zCy y s_kr1 := zCy.fr hC F_kr1 (by intro q h1 h2 h3; (try simp only [zIn, zJf] at h3); omega)
  have kR11 : zXa y s_kr1 := zXa.fr hX9 F_kr1 (by intro q h1 h2 h3; (try simp only [zIn, zJf] at h3); omega)
  have kR12 : zOa y s_kr1 := zOa.fr hOt F_kr1 (by intro q h1 h2 h3; (try simp only [zIn, zJf] at h3); omega)
  have kF13 := zFr.tr zFr.rf (P := zMq y) F_kr1 (by intro q hq; unfold zMq; omega)
  replace e_kr1 := e_kr1.trans (if_neg (by decide) : (_ : Int32) = 1)
  obtain rfl := e_kr1.symm
  refine zr_if_eq (tgt := 35) dX10_strandEnd_28 (by decide) (fun c_28 => absurd c_28 (by decide)) (fun c_28 => ?_)
  refine zr_iconst (v := 0) dX10_strandEnd_31 (by decide) ?_
  refine zr_goto (tgt := 41) dX10_strandEnd_32 (by decide) ?_
  exact zr_ireturn dX10_strandEnd_41 rfl (rfl) (⟨_, rfl, trivial, kF13, ⟨_, _, _, _, _, _, _, _, g0_kr1, ⟨f4, f5, f6, rfl, rfl, f9, f10, f11, f13, f14, f16, f27⟩, kh2, kh3, kh4, kh5, kh6, kh7, kh8, kR9, kR10, kR11, kR12, gr, gS, gK, hm8, gU, hn60, hT, hll, hln⟩⟩)

set_option maxHeartbeats 400000 in
set_option maxRecDepth 100000 in
theorem qX10_relaxedLength {X : zX} (hX : X.1.stackTraces = false) {σ : zS} {y : Nat} {w tm cd dn : Int32} {K : zDk} {A S : zDk} {m : Nat} {U : Nat → zDk} {n : Nat} {T : Nat → Int32} {ll : Nat} {ln : Nat → Int32} {hs kf ld dt dc : Int32} {i : Nat} {q : Nat × List Int32} (hM : zMo y w tm cd dn K A S m U n T ll ln hs kf ld dt dc σ) (gA : zGd A) (hi : i < kC A) (hO : zRn 2000 [] (zWd A i) = some q) : zMet X mX10_relaxedLength yX10_relaxedLength 4 0 0 [.ref y, .int (nI i)] σ (zI (fun y_ s => y_ = nI q.2.length ∧ zFr σ s (zMq y) ∧ zMo y w tm 0 0 K A S m U n T ll ln hs kf ld dt dc s)) := by
  refine zMet_of (ls := [some (.ref y), some (.int (nI i))]) rfl (by decide +kernel) rfl (fun h => by cases h) hX (Nat.le_of_ble_eq_true rfl) rfl ?_
  obtain ⟨F, g, kp, sv, bf, ip, sg, td, h0, hf, h1, h2, h3, h4, h5, h6, h11, hWa, hC, hX9, hOt, gr, gS, gK, hm8, gU, hn60, hT, hll, hln⟩ := id hM
  obtain ⟨f4, f5, f6, f7, f8, f9, f10, f11, f13, f14, f16, f27⟩ := id hf
  have hA := gA.1
  obtain ⟨r0, r1, rc, rp⟩ := id gr
  obtain ⟨hC8, hP8, hW⟩ := id hA
  refine zr_aload_n dX10_relaxedLength_0 rfl ?_
  refine zr_iload_n dX10_relaxedLength_1 rfl ?_
  refine zr_callVi [] dX10_relaxedLength_2 vX10_174 (qX10_isRelaxed hX (i := i) h0 h1 gr hA hi hO hWa hC) h0 (by decide) (by decide) (by decide) rfl rfl (Nat.le_of_ble_eq_true rfl) (by decide) rfl (fun r1 s1 h_ => ?_)
  obtain ⟨rfl, u1, v1, F1, g0, kW1, kC1, q20, q400⟩ := h_
  have kh1 : s1.1 (y + 1) = .inl (0, 82, .inl g) := zFr.get F1 (by omega) h1
  have kh2 : s1.1 (y + 2) = .inl (0, 656, .inl kp) := zFr.get F1 (by omega) h2
  have kh3 : s1.1 (y + 3) = .inl (0, 82, .inl sv) := zFr.get F1 (by omega) h3
  have kh4 : s1.1 (y + 4) = .inl (0, 82, .inl bf) := zFr.get F1 (by omega) h4
  have kh5 : s1.1 (y + 5) = .inl (0, 60, .inl ip) := zFr.get F1 (by omega) h5
  have kh6 : s1.1 (y + 6) = .inl (1, 400, .inl sg) := zFr.get F1 (by omega) h6
  have kh7 : s1.1 (y + 11) = .inl (0, 93, .inl td) := zFr.get F1 (by omega) h11
  have kR8 := zXa.fr hX9 F1 (by intro q a b c; omega)
  have kR9 := zOa.fr hOt F1 (by intro q a b c; omega)
  have kF10 := zFr.tr zFr.rf (P := zMq y) F1 (by intro q hq; unfold zMq; omega)
  refine zr_if_eq (tgt := 15) dX10_relaxedLength_5 (by decide) (fun c_5 => absurd c_5 (by decide)) (fun c_5 => ?_)
  refine zr_aload_n dX10_relaxedLength_8 rfl ?_
  refine zr_getM (v := .int (nI q.2.length)) dX10_relaxedLength_9 fX10_79 g0 rfl ?_
  refine zr_goto (tgt := 16) dX10_relaxedLength_12 (by decide) ?_
  exact zr_ireturn dX10_relaxedLength_16 rfl (rfl) (⟨_, rfl, rfl, kF10, ⟨_, _, _, _, _, _, _, _, g0, ⟨f4, f5, f6, rfl, rfl, f9, f10, f11, f13, f14, f16, f27⟩, kh1, kh2, kh3, kh4, kh5, kh6, kh7, (kW1).wa, kC1, kR8, kR9, gr, gS, gK, hm8, gU, hn60, hT, hll, hln⟩⟩)

set_option maxHeartbeats 400000 in
set_option maxRecDepth 100000 in
theorem qX10_relaxedLengthN {X : zX} (hX : X.1.stackTraces = false) {σ : zS} {y : Nat} {w tm cd dn : Int32} {K : zDk} {A S : zDk} {m : Nat} {U : Nat → zDk} {n : Nat} {T : Nat → Int32} {ll : Nat} {ln : Nat → Int32} {hs kf ld dt dc : Int32} {i : Nat} (hM : zMo y w tm cd dn K A S m U n T ll ln hs kf ld dt dc σ) (gA : zGd A) (hi : i < kC A) (hO : zRn 2000 [] (zWd A i) = none) : zMet X mX10_relaxedLength yX10_relaxedLength 4 0 0 [.ref y, .int (nI i)] σ (zI (fun y_ s => True ∧ zFr σ s (zMq y) ∧ zMo y w tm 2 0 K A S m U n T ll ln hs kf ld dt dc s)) := by
  refine zMet_of (ls := [some (.ref y), some (.int (nI i))]) rfl (by decide +kernel) rfl (fun h => by cases h) hX (Nat.le_of_ble_eq_true rfl) rfl ?_
  obtain ⟨F, g, kp, sv, bf, ip, sg, td, h0, hf, h1, h2, h3, h4, h5, h6, h11, hWa, hC, hX9, hOt, gr, gS, gK, hm8, gU, hn60, hT, hll, hln⟩ := id hM
  obtain ⟨f4, f5, f6, f7, f8, f9, f10, f11, f13, f14, f16, f27⟩ := id hf
  have hA := gA.1
  obtain ⟨r0, r1, rc, rp⟩ := id gr
  obtain ⟨hC8, hP8, hW⟩ := id hA
  refine zr_aload_n dX10_relaxedLength_0 rfl ?_
  refine zr_iload_n dX10_relaxedLength_1 rfl ?_
  refine zr_callVi [] dX10_relaxedLength_2 vX10_174 (qX10_isRelaxedN hX (i := i) h0 h1 gr hA hi hO hWa hC) h0 (by decide) (by decide) (by decide) rfl rfl (Nat.le_of_ble_eq_true rfl) (by decide) rfl (fun r1 s1 h_ => ?_)
  obtain ⟨rfl, m1, c1, u1, v1, F1, g0, kW1, kC1⟩ := h_
  have kh1 : s1.1 (y + 1) = .inl (0, 82, .inl g) := zFr.get F1 (by omega) h1
  have kh2 : s1.1 (y + 2) = .inl (0, 656, .inl kp) := zFr.get F1 (by omega) h2
  have kh3 : s1.1 (y + 3) = .inl (0, 82, .inl sv) := zFr.get F1 (by omega) h3
  have kh4 : s1.1 (y + 4) = .inl (0, 82, .inl bf) := zFr.get F1 (by omega) h4
  have kh5 : s1.1 (y + 5) = .inl (0, 60, .inl ip) := zFr.get F1 (by omega) h5
  have kh6 : s1.1 (y + 6) = .inl (1, 400, .inl sg) := zFr.get F1 (by omega) h6
  have kh7 : s1.1 (y + 11) = .inl (0, 93, .inl td) := zFr.get F1 (by omega) h11
  have kR8 := zXa.fr hX9 F1 (by intro q a b c; omega)
  have kR9 := zOa.fr hOt F1 (by intro q a b c; omega)
  have kF10 := zFr.tr zFr.rf (P := zMq y) F1 (by intro q hq; unfold zMq; omega)
  refine zr_if_eq (tgt := 15) dX10_relaxedLength_5 (by decide) (fun c_5 => ?_) (fun c_5 => absurd (by decide) c_5)
  refine zr_iconst (v := 0) dX10_relaxedLength_15 (by decide) ?_
  exact zr_ireturn dX10_relaxedLength_16 rfl (rfl) (⟨_, rfl, trivial, kF10, ⟨_, _, _, _, _, _, _, _, g0, ⟨f4, f5, f6, rfl, rfl, f9, f10, f11, f13, f14, f16, f27⟩, kh1, kh2, kh3, kh4, kh5, kh6, kh7, kW1, kC1, kR8, kR9, gr, gS, gK, hm8, gU, hn60, hT, hll, hln⟩⟩)

set_option maxHeartbeats 400000 in
set_option maxRecDepth 100000 in
theorem qX10_relaxedLengthX {X : zX} (hX : X.1.stackTraces = false) {σ : zS} {y : Nat} {w tm cd dn : Int32} {K : zDk} {A S : zDk} {m : Nat} {U : Nat → zDk} {n : Nat} {T : Nat → Int32} {ll : Nat} {ln : Nat → Int32} {hs kf ld dt dc : Int32} {p : Int32} (hM : zMo y w tm cd dn K A S m U n T ll ln hs kf ld dt dc σ) (gA : zGd A) (hno : ¬ (¬ p < 0 ∧ p < nI (kC A))) : zMet X mX10_relaxedLength yX10_relaxedLength 4 0 0 [.ref y, .int p] σ (zI (fun y_ s => True ∧ zFr σ s (zMq y) ∧ zMo y w tm 1 0 K A S m U n T ll ln hs kf ld dt dc s)) := by
  refine zMet_of (ls := [some (.ref y), some (.int p)]) rfl (by decide +kernel) rfl (fun h => by cases h) hX (Nat.le_of_ble_eq_true rfl) rfl ?_
  obtain ⟨F, g, kp, sv, bf, ip, sg, td, h0, hf, h1, h2, h3, h4, h5, h6, h11, hWa, hC, hX9, hOt, gr, gS, gK, hm8, gU, hn60, hT, hll, hln⟩ := id hM
  obtain ⟨f4, f5, f6, f7, f8, f9, f10, f11, f13, f14, f16, f27⟩ := id hf
  have hA := gA.1
  obtain ⟨r0, r1, rc, rp⟩ := id gr
  obtain ⟨hC8, hP8, hW⟩ := id hA
  refine zr_aload_n dX10_relaxedLength_0 rfl ?_
  refine zr_iload_n dX10_relaxedLength_1 rfl ?_
  refine zr_callVi [] dX10_relaxedLength_2 vX10_174 (qX10_isRelaxedX hX (p := p) h0 h1 gr hA hno) h0 (by decide) (by decide) (by decide) rfl rfl (Nat.le_of_ble_eq_true rfl) (by decide) rfl (fun r1 s1 h_ => ?_)
  obtain ⟨rfl, F1, g0⟩ := h_
  have kh1 : s1.1 (y + 1) = .inl (0, 82, .inl g) := zFr.get F1 (by omega) h1
  have kh2 : s1.1 (y + 2) = .inl (0, 656, .inl kp) := zFr.get F1 (by omega) h2
  have kh3 : s1.1 (y + 3) = .inl (0, 82, .inl sv) := zFr.get F1 (by omega) h3
  have kh4 : s1.1 (y + 4) = .inl (0, 82, .inl bf) := zFr.get F1 (by omega) h4
  have kh5 : s1.1 (y + 5) = .inl (0, 60, .inl ip) := zFr.get F1 (by omega) h5
  have kh6 : s1.1 (y + 6) = .inl (1, 400, .inl sg) := zFr.get F1 (by omega) h6
  have kh7 : s1.1 (y + 11) = .inl (0, 93, .inl td) := zFr.get F1 (by omega) h11
  have kR8 := zWa.fr hWa F1 (by intro q a b c; omega)
  have kR9 := zCy.fr hC F1 (by intro q a b c; omega)
  have kR10 := zXa.fr hX9 F1 (by intro q a b c; omega)
  have kR11 := zOa.fr hOt F1 (by intro q a b c; omega)
  have kF12 := zFr.tr zFr.rf (P := zMq y) F1 (by intro q hq; unfold zMq; omega)
  refine zr_if_eq (tgt := 15) dX10_relaxedLength_5 (by decide) (fun c_5 => ?_) (fun c_5 => absurd (by decide) c_5)
  refine zr_iconst (v := 0) dX10_relaxedLength_15 (by decide) ?_
  exact zr_ireturn dX10_relaxedLength_16 rfl (rfl) (⟨_, rfl, trivial, kF12, ⟨_, _, _, _, _, _, _, _, g0, ⟨f4, f5, f6, rfl, rfl, f9, f10, f11, f13, f14, f16, f27⟩, kh1, kh2, kh3, kh4, kh5, kh6, kh7, kR8, kR9, kR10, kR11, gr, gS, gK, hm8, gU, hn60, hT, hll, hln⟩⟩)

set_option maxHeartbeats 400000 in
set_option maxRecDepth 100000 in
theorem qX10_isTrivial {X : zX} (hX : X.1.stackTraces = false) {σ : zS} {y : Nat} {w tm cd dn : Int32} {K : zDk} {A S : zDk} {m : Nat} {U : Nat → zDk} {n : Nat} {T : Nat → Int32} {ll : Nat} {ln : Nat → Int32} {hs kf ld dt dc : Int32} {i : Nat} {q : Nat × List Int32} (hM : zMo y w tm cd dn K A S m U n T ll ln hs kf ld dt dc σ) (gA : zGd A) (hi : i < kC A) (hO : zRn 2000 [] (zWd A i) = some q) : zMet X mX10_isTrivial yX10_isTrivial 4 0 0 [.ref y, .int (nI i)] σ (zI (fun y_ s => y_ = (if q.2.length = 0 then 1 else 0) ∧ zFr σ s (zMq y) ∧ zMo y w tm 0 0 K A S m U n T ll ln hs kf ld dt dc s)) := by
  refine zMet_of (ls := [some (.ref y), some (.int (nI i))]) rfl (by decide +kernel) rfl (fun h => by cases h) hX (Nat.le_of_ble_eq_true rfl) rfl ?_
  obtain ⟨F, g, kp, sv, bf, ip, sg, td, h0, hf, h1, h2, h3, h4, h5, h6, h11, hWa, hC, hX9, hOt, gr, gS, gK, hm8, gU, hn60, hT, hll, hln⟩ := id hM
  obtain ⟨f4, f5, f6, f7, f8, f9, f10, f11, f13, f14, f16, f27⟩ := id hf
  have hA := gA.1
  obtain ⟨r0, r1, rc, rp⟩ := id gr
  obtain ⟨hC8, hP8, hW⟩ := id hA
  refine zr_aload_n dX10_isTrivial_0 rfl ?_
  refine zr_iload_n dX10_isTrivial_1 rfl ?_
  refine zr_callVi [] dX10_isTrivial_2 vX10_174 (qX10_isRelaxed hX (i := i) h0 h1 gr hA hi hO hWa hC) h0 (by decide) (by decide) (by decide) rfl rfl (Nat.le_of_ble_eq_true rfl) (by decide) rfl (fun r1 s1 h_ => ?_)
  obtain ⟨rfl, u1, v1, F1, g0, kW1, kC1, q20, q400⟩ := h_
  have kh1 : s1.1 (y + 1) = .inl (0, 82, .inl g) := zFr.get F1 (by omega) h1
  have kh2 : s1.1 (y + 2) = .inl (0, 656, .inl kp) := zFr.get F1 (by omega) h2
  have kh3 : s1.1 (y + 3) = .inl (0, 82, .inl sv) := zFr.get F1 (by omega) h3
  have kh4 : s1.1 (y + 4) = .inl (0, 82, .inl bf) := zFr.get F1 (by omega) h4
  have kh5 : s1.1 (y + 5) = .inl (0, 60, .inl ip) := zFr.get F1 (by omega) h5
  have kh6 : s1.1 (y + 6) = .inl (1, 400, .inl sg) := zFr.get F1 (by omega) h6
  have kh7 : s1.1 (y + 11) = .inl (0, 93, .inl td) := zFr.get F1 (by omega) h11
  have kR8 := zXa.fr hX9 F1 (by intro q a b c; omega)
  have kR9 := zOa.fr hOt F1 (by intro q a b c; omega)
  have kF10 := zFr.tr zFr.rf (P := zMq y) F1 (by intro q hq; unfold zMq; omega)
  refine zr_if_eq (tgt := 19) dX10_isTrivial_5 (by decide) (fun c_5 => absurd c_5 (by decide)) (fun c_5 => ?_)
  refine zr_aload_n dX10_isTrivial_8 rfl ?_
  refine zr_getM (v := .int (nI q.2.length)) dX10_isTrivial_9 fX10_79 g0 rfl ?_
  refine zr_if_ne (tgt := 19) dX10_isTrivial_12 (by decide) (fun c_12 => ?_) (fun c_12 => ?_)
  · refine zr_iconst (v := 0) dX10_isTrivial_19 (by decide) ?_
    exact zr_ireturn dX10_isTrivial_20 rfl (rfl) (⟨_, rfl, by first | rw [if_pos ((nI_eq (b := 0) (by omega) (by omega)).mp c_12)] | rw [if_neg (fun e => c_12 (by rw [e]; rfl))], kF10, ⟨_, _, _, _, _, _, _, _, g0, ⟨f4, f5, f6, rfl, rfl, f9, f10, f11, f13, f14, f16, f27⟩, kh1, kh2, kh3, kh4, kh5, kh6, kh7, (kW1).wa, kC1, kR8, kR9, gr, gS, gK, hm8, gU, hn60, hT, hll, hln⟩⟩)
  · refine zr_iconst (v := 1) dX10_isTrivial_15 (by decide) ?_
    refine zr_goto (tgt := 20) dX10_isTrivial_16 (by decide) ?_
    exact zr_ireturn dX10_isTrivial_20 rfl (rfl) (⟨_, rfl, by first | rw [if_pos ((nI_eq (b := 0) (by omega) (by omega)).mp c_12)] | rw [if_neg (fun e => c_12 (by rw [e]; rfl))], kF10, ⟨_, _, _, _, _, _, _, _, g0, ⟨f4, f5, f6, rfl, rfl, f9, f10, f11, f13, f14, f16, f27⟩, kh1, kh2, kh3, kh4, kh5, kh6, kh7, (kW1).wa, kC1, kR8, kR9, gr, gS, gK, hm8, gU, hn60, hT, hll, hln⟩⟩)

set_option maxHeartbeats 400000 in
set_option maxRecDepth 100000 in
theorem qX10_isTrivialN {X : zX} (hX : X.1.stackTraces = false) {σ : zS} {y : Nat} {w tm cd dn : Int32} {K : zDk} {A S : zDk} {m : Nat} {U : Nat → zDk} {n : Nat} {T : Nat → Int32} {ll : Nat} {ln : Nat → Int32} {hs kf ld dt dc : Int32} {i : Nat} (hM : zMo y w tm cd dn K A S m U n T ll ln hs kf ld dt dc σ) (gA : zGd A) (hi : i < kC A) (hO : zRn 2000 [] (zWd A i) = none) : zMet X mX10_isTrivial yX10_isTrivial 4 0 0 [.ref y, .int (nI i)] σ (zI (fun y_ s => True ∧ zFr σ s (zMq y) ∧ zMo y w tm 2 0 K A S m U n T ll ln hs kf ld dt dc s)) := by
  refine zMet_of (ls := [some (.ref y), some (.int (nI i))]) rfl (by decide +kernel) rfl (fun h => by cases h) hX (Nat.le_of_ble_eq_true rfl) rfl ?_
  obtain ⟨F, g, kp, sv, bf, ip, sg, td, h0, hf, h1, h2, h3, h4, h5, h6, h11, hWa, hC, hX9, hOt, gr, gS, gK, hm8, gU, hn60, hT, hll, hln⟩ := id hM
  obtain ⟨f4, f5, f6, f7, f8, f9, f10, f11, f13, f14, f16, f27⟩ := id hf
  have hA := gA.1
  obtain ⟨r0, r1, rc, rp⟩ := id gr
  obtain ⟨hC8, hP8, hW⟩ := id hA
  refine zr_aload_n dX10_isTrivial_0 rfl ?_
  refine zr_iload_n dX10_isTrivial_1 rfl ?_
  refine zr_callVi [] dX10_isTrivial_2 vX10_174 (qX10_isRelaxedN hX (i := i) h0 h1 gr hA hi hO hWa hC) h0 (by decide) (by decide) (by decide) rfl rfl (Nat.le_of_ble_eq_true rfl) (by decide) rfl (fun r1 s1 h_ => ?_)
  obtain ⟨rfl, m1, c1, u1, v1, F1, g0, kW1, kC1⟩ := h_
  have kh1 : s1.1 (y + 1) = .inl (0, 82, .inl g) := zFr.get F1 (by omega) h1
  have kh2 : s1.1 (y + 2) = .inl (0, 656, .inl kp) := zFr.get F1 (by omega) h2
  have kh3 : s1.1 (y + 3) = .inl (0, 82, .inl sv) := zFr.get F1 (by omega) h3
  have kh4 : s1.1 (y + 4) = .inl (0, 82, .inl bf) := zFr.get F1 (by omega) h4
  have kh5 : s1.1 (y + 5) = .inl (0, 60, .inl ip) := zFr.get F1 (by omega) h5
  have kh6 : s1.1 (y + 6) = .inl (1, 400, .inl sg) := zFr.get F1 (by omega) h6
  have kh7 : s1.1 (y + 11) = .inl (0, 93, .inl td) := zFr.get F1 (by omega) h11
  have kR8 := zXa.fr hX9 F1 (by intro q a b c; omega)
  have kR9 := zOa.fr hOt F1 (by intro q a b c; omega)
  have kF10 := zFr.tr zFr.rf (P := zMq y) F1 (by intro q hq; unfold zMq; omega)
  refine zr_if_eq (tgt := 19) dX10_isTrivial_5 (by decide) (fun c_5 => ?_) (fun c_5 => absurd (by decide) c_5)
  refine zr_iconst (v := 0) dX10_isTrivial_19 (by decide) ?_
  exact zr_ireturn dX10_isTrivial_20 rfl (rfl) (⟨_, rfl, trivial, kF10, ⟨_, _, _, _, _, _, _, _, g0, ⟨f4, f5, f6, rfl, rfl, f9, f10, f11, f13, f14, f16, f27⟩, kh1, kh2, kh3, kh4, kh5, kh6, kh7, kW1, kC1, kR8, kR9, gr, gS, gK, hm8, gU, hn60, hT, hll, hln⟩⟩)

set_option maxHeartbeats 400000 in
set_option maxRecDepth 100000 in
theorem qX10_isTrivialX {X : zX} (hX : X.1.stackTraces = false) {σ : zS} {y : Nat} {w tm cd dn : Int32} {K : zDk} {A S : zDk} {m : Nat} {U : Nat → zDk} {n : Nat} {T : Nat → Int32} {ll : Nat} {ln : Nat → Int32} {hs kf ld dt dc : Int32} {p : Int32} (hM : zMo y w tm cd dn K A S m U n T ll ln hs kf ld dt dc σ) (gA : zGd A) (hno : ¬ (¬ p < 0 ∧ p < nI (kC A))) : zMet X mX10_isTrivial yX10_isTrivial 4 0 0 [.ref y, .int p] σ (zI (fun y_ s => True ∧ zFr σ s (zMq y) ∧ zMo y w tm 1 0 K A S m U n T ll ln hs kf ld dt dc s)) := by
  refine zMet_of (ls := [some (.ref y), some (.int p)]) rfl (by decide +kernel) rfl (fun h => by cases h) hX (Nat.le_of_ble_eq_true rfl) rfl ?_
  obtain ⟨F, g, kp, sv, bf, ip, sg, td, h0, hf, h1, h2, h3, h4, h5, h6, h11, hWa, hC, hX9, hOt, gr, gS, gK, hm8, gU, hn60, hT, hll, hln⟩ := id hM
  obtain ⟨f4, f5, f6, f7, f8, f9, f10, f11, f13, f14, f16, f27⟩ := id hf
  have hA := gA.1
  obtain ⟨r0, r1, rc, rp⟩ := id gr
  obtain ⟨hC8, hP8, hW⟩ := id hA
  refine zr_aload_n dX10_isTrivial_0 rfl ?_
  refine zr_iload_n dX10_isTrivial_1 rfl ?_
  refine zr_callVi [] dX10_isTrivial_2 vX10_174 (qX10_isRelaxedX hX (p := p) h0 h1 gr hA hno) h0 (by decide) (by decide) (by decide) rfl rfl (Nat.le_of_ble_eq_true rfl) (by decide) rfl (fun r1 s1 h_ => ?_)
  obtain ⟨rfl, F1, g0⟩ := h_
  have kh1 : s1.1 (y + 1) = .inl (0, 82, .inl g) := zFr.get F1 (by omega) h1
  have kh2 : s1.1 (y + 2) = .inl (0, 656, .inl kp) := zFr.get F1 (by omega) h2
  have kh3 : s1.1 (y + 3) = .inl (0, 82, .inl sv) := zFr.get F1 (by omega) h3
  have kh4 : s1.1 (y + 4) = .inl (0, 82, .inl bf) := zFr.get F1 (by omega) h4
  have kh5 : s1.1 (y + 5) = .inl (0, 60, .inl ip) := zFr.get F1 (by omega) h5
  have kh6 : s1.1 (y + 6) = .inl (1, 400, .inl sg) := zFr.get F1 (by omega) h6
  have kh7 : s1.1 (y + 11) = .inl (0, 93, .inl td) := zFr.get F1 (by omega) h11
  have kR8 := zWa.fr hWa F1 (by intro q a b c; omega)
  have kR9 := zCy.fr hC F1 (by intro q a b c; omega)
  have kR10 := zXa.fr hX9 F1 (by intro q a b c; omega)
  have kR11 := zOa.fr hOt F1 (by intro q a b c; omega)
  have kF12 := zFr.tr zFr.rf (P := zMq y) F1 (by intro q hq; unfold zMq; omega)
  refine zr_if_eq (tgt := 19) dX10_isTrivial_5 (by decide) (fun c_5 => ?_) (fun c_5 => absurd (by decide) c_5)
  refine zr_iconst (v := 0) dX10_isTrivial_19 (by decide) ?_
  exact zr_ireturn dX10_isTrivial_20 rfl (rfl) (⟨_, rfl, trivial, kF12, ⟨_, _, _, _, _, _, _, _, g0, ⟨f4, f5, f6, rfl, rfl, f9, f10, f11, f13, f14, f16, f27⟩, kh1, kh2, kh3, kh4, kh5, kh6, kh7, kR8, kR9, kR10, kR11, gr, gS, gK, hm8, gU, hn60, hT, hll, hln⟩⟩)

set_option maxHeartbeats 400000 in
set_option maxRecDepth 100000 in
theorem qX10_areEqual {X : zX} (hX : X.1.stackTraces = false) {σ : zS} {y : Nat} {w tm cd dn : Int32} {K : zDk} {A S : zDk} {m : Nat} {U : Nat → zDk} {n : Nat} {T : Nat → Int32} {ll : Nat} {ln : Nat → Int32} {hs kf ld dt dc : Int32} {i j : Nat} {q : Nat × List Int32} (hM : zMo y w tm cd dn K A S m U n T ll ln hs kf ld dt dc σ) (gA : zGd A) (hi : i < kC A) (hj : j < kC A) (hO : zRn 2000 [] (zWq A i j) = some q) : zMet X mX10_areEqual yX10_areEqual 4 0 0 [.ref y, .int (nI i), .int (nI j)] σ (zI (fun y_ s => y_ = (if q.2.length = 0 then 1 else 0) ∧ zFr σ s (zMq y) ∧ zMo y w tm 0 0 K A S m U n T ll ln hs kf ld dt dc s)) := by
  refine zMet_of (ls := [some (.ref y), some (.int (nI i)), some (.int (nI j))]) rfl (by decide +kernel) rfl (fun h => by cases h) hX (Nat.le_of_ble_eq_true rfl) rfl ?_
  obtain ⟨F, g, kp, sv, bf, ip, sg, td, h0, hf, h1, h2, h3, h4, h5, h6, h11, hWa, hC, hX9, hOt, gr, gS, gK, hm8, gU, hn60, hT, hll, hln⟩ := id hM
  obtain ⟨f4, f5, f6, f7, f8, f9, f10, f11, f13, f14, f16, f27⟩ := id hf
  have hA := gA.1
  obtain ⟨r0, r1, rc, rp⟩ := id gr
  obtain ⟨hC8, hP8, hW⟩ := id hA
  refine zr_aload_n dX10_areEqual_0 rfl ?_
  refine zr_iload_n dX10_areEqual_1 rfl ?_
  refine zr_iload_n dX10_areEqual_2 rfl ?_
  refine zr_callVi [] dX10_areEqual_3 vX10_190 (qX10_isDivided hX (i := i) (j := j) h0 h1 gr hA hi hj hO hWa hC) h0 (by decide) (by decide) (by decide) rfl rfl (Nat.le_of_ble_eq_true rfl) (by decide) rfl (fun r1 s1 h_ => ?_)
  obtain ⟨rfl, u1, v1, F1, g0, kW1, kC1, q20, q400⟩ := h_
  have kh1 : s1.1 (y + 1) = .inl (0, 82, .inl g) := zFr.get F1 (by omega) h1
  have kh2 : s1.1 (y + 2) = .inl (0, 656, .inl kp) := zFr.get F1 (by omega) h2
  have kh3 : s1.1 (y + 3) = .inl (0, 82, .inl sv) := zFr.get F1 (by omega) h3
  have kh4 : s1.1 (y + 4) = .inl (0, 82, .inl bf) := zFr.get F1 (by omega) h4
  have kh5 : s1.1 (y + 5) = .inl (0, 60, .inl ip) := zFr.get F1 (by omega) h5
  have kh6 : s1.1 (y + 6) = .inl (1, 400, .inl sg) := zFr.get F1 (by omega) h6
  have kh7 : s1.1 (y + 11) = .inl (0, 93, .inl td) := zFr.get F1 (by omega) h11
  have kR8 := zXa.fr hX9 F1 (by intro q a b c; omega)
  have kR9 := zOa.fr hOt F1 (by intro q a b c; omega)
  have kF10 := zFr.tr zFr.rf (P := zMq y) F1 (by intro q hq; unfold zMq; omega)
  refine zr_if_eq (tgt := 20) dX10_areEqual_6 (by decide) (fun c_6 => absurd c_6 (by decide)) (fun c_6 => ?_)
  refine zr_aload_n dX10_areEqual_9 rfl ?_
  refine zr_getM (v := .int (nI q.2.length)) dX10_areEqual_10 fX10_79 g0 rfl ?_
  refine zr_if_ne (tgt := 20) dX10_areEqual_13 (by decide) (fun c_13 => ?_) (fun c_13 => ?_)
  · refine zr_iconst (v := 0) dX10_areEqual_20 (by decide) ?_
    exact zr_ireturn dX10_areEqual_21 rfl (rfl) (⟨_, rfl, by first | rw [if_pos ((nI_eq (b := 0) (by omega) (by omega)).mp c_13)] | rw [if_neg (fun e => c_13 (by rw [e]; rfl))], kF10, ⟨_, _, _, _, _, _, _, _, g0, ⟨f4, f5, f6, rfl, rfl, f9, f10, f11, f13, f14, f16, f27⟩, kh1, kh2, kh3, kh4, kh5, kh6, kh7, (kW1).wa, kC1, kR8, kR9, gr, gS, gK, hm8, gU, hn60, hT, hll, hln⟩⟩)
  · refine zr_iconst (v := 1) dX10_areEqual_16 (by decide) ?_
    refine zr_goto (tgt := 21) dX10_areEqual_17 (by decide) ?_
    exact zr_ireturn dX10_areEqual_21 rfl (rfl) (⟨_, rfl, by first | rw [if_pos ((nI_eq (b := 0) (by omega) (by omega)).mp c_13)] | rw [if_neg (fun e => c_13 (by rw [e]; rfl))], kF10, ⟨_, _, _, _, _, _, _, _, g0, ⟨f4, f5, f6, rfl, rfl, f9, f10, f11, f13, f14, f16, f27⟩, kh1, kh2, kh3, kh4, kh5, kh6, kh7, (kW1).wa, kC1, kR8, kR9, gr, gS, gK, hm8, gU, hn60, hT, hll, hln⟩⟩)

set_option maxHeartbeats 400000 in
set_option maxRecDepth 100000 in
theorem qX10_areEqualN {X : zX} (hX : X.1.stackTraces = false) {σ : zS} {y : Nat} {w tm cd dn : Int32} {K : zDk} {A S : zDk} {m : Nat} {U : Nat → zDk} {n : Nat} {T : Nat → Int32} {ll : Nat} {ln : Nat → Int32} {hs kf ld dt dc : Int32} {i j : Nat} (hM : zMo y w tm cd dn K A S m U n T ll ln hs kf ld dt dc σ) (gA : zGd A) (hi : i < kC A) (hj : j < kC A) (hO : zRn 2000 [] (zWq A i j) = none) : zMet X mX10_areEqual yX10_areEqual 4 0 0 [.ref y, .int (nI i), .int (nI j)] σ (zI (fun y_ s => True ∧ zFr σ s (zMq y) ∧ zMo y w tm 2 0 K A S m U n T ll ln hs kf ld dt dc s)) := by
  refine zMet_of (ls := [some (.ref y), some (.int (nI i)), some (.int (nI j))]) rfl (by decide +kernel) rfl (fun h => by cases h) hX (Nat.le_of_ble_eq_true rfl) rfl ?_
  obtain ⟨F, g, kp, sv, bf, ip, sg, td, h0, hf, h1, h2, h3, h4, h5, h6, h11, hWa, hC, hX9, hOt, gr, gS, gK, hm8, gU, hn60, hT, hll, hln⟩ := id hM
  obtain ⟨f4, f5, f6, f7, f8, f9, f10, f11, f13, f14, f16, f27⟩ := id hf
  have hA := gA.1
  obtain ⟨r0, r1, rc, rp⟩ := id gr
  obtain ⟨hC8, hP8, hW⟩ := id hA
  refine zr_aload_n dX10_areEqual_0 rfl ?_
  refine zr_iload_n dX10_areEqual_1 rfl ?_
  refine zr_iload_n dX10_areEqual_2 rfl ?_
  refine zr_callVi [] dX10_areEqual_3 vX10_190 (qX10_isDividedN hX (i := i) (j := j) h0 h1 gr hA hi hj hO hWa hC) h0 (by decide) (by decide) (by decide) rfl rfl (Nat.le_of_ble_eq_true rfl) (by decide) rfl (fun r1 s1 h_ => ?_)
  obtain ⟨rfl, m1, c1, u1, v1, F1, g0, kW1, kC1⟩ := h_
  have kh1 : s1.1 (y + 1) = .inl (0, 82, .inl g) := zFr.get F1 (by omega) h1
  have kh2 : s1.1 (y + 2) = .inl (0, 656, .inl kp) := zFr.get F1 (by omega) h2
  have kh3 : s1.1 (y + 3) = .inl (0, 82, .inl sv) := zFr.get F1 (by omega) h3
  have kh4 : s1.1 (y + 4) = .inl (0, 82, .inl bf) := zFr.get F1 (by omega) h4
  have kh5 : s1.1 (y + 5) = .inl (0, 60, .inl ip) := zFr.get F1 (by omega) h5
  have kh6 : s1.1 (y + 6) = .inl (1, 400, .inl sg) := zFr.get F1 (by omega) h6
  have kh7 : s1.1 (y + 11) = .inl (0, 93, .inl td) := zFr.get F1 (by omega) h11
  have kR8 := zXa.fr hX9 F1 (by intro q a b c; omega)
  have kR9 := zOa.fr hOt F1 (by intro q a b c; omega)
  have kF10 := zFr.tr zFr.rf (P := zMq y) F1 (by intro q hq; unfold zMq; omega)
  refine zr_if_eq (tgt := 20) dX10_areEqual_6 (by decide) (fun c_6 => ?_) (fun c_6 => absurd (by decide) c_6)
  refine zr_iconst (v := 0) dX10_areEqual_20 (by decide) ?_
  exact zr_ireturn dX10_areEqual_21 rfl (rfl) (⟨_, rfl, trivial, kF10, ⟨_, _, _, _, _, _, _, _, g0, ⟨f4, f5, f6, rfl, rfl, f9, f10, f11, f13, f14, f16, f27⟩, kh1, kh2, kh3, kh4, kh5, kh6, kh7, kW1, kC1, kR8, kR9, gr, gS, gK, hm8, gU, hn60, hT, hll, hln⟩⟩)

set_option maxHeartbeats 400000 in
set_option maxRecDepth 100000 in
theorem qX10_areEqualX {X : zX} (hX : X.1.stackTraces = false) {σ : zS} {y : Nat} {w tm cd dn : Int32} {K : zDk} {A S : zDk} {m : Nat} {U : Nat → zDk} {n : Nat} {T : Nat → Int32} {ll : Nat} {ln : Nat → Int32} {hs kf ld dt dc : Int32} {p : Int32} {p2 : Int32} (hM : zMo y w tm cd dn K A S m U n T ll ln hs kf ld dt dc σ) (gA : zGd A) (hno : ¬ (¬ p < 0 ∧ p < nI (kC A))) : zMet X mX10_areEqual yX10_areEqual 4 0 0 [.ref y, .int p, .int p2] σ (zI (fun y_ s => True ∧ zFr σ s (zMq y) ∧ zMo y w tm 1 0 K A S m U n T ll ln hs kf ld dt dc s)) := by
  refine zMet_of (ls := [some (.ref y), some (.int p), some (.int p2)]) rfl (by decide +kernel) rfl (fun h => by cases h) hX (Nat.le_of_ble_eq_true rfl) rfl ?_
  obtain ⟨F, g, kp, sv, bf, ip, sg, td, h0, hf, h1, h2, h3, h4, h5, h6, h11, hWa, hC, hX9, hOt, gr, gS, gK, hm8, gU, hn60, hT, hll, hln⟩ := id hM
  obtain ⟨f4, f5, f6, f7, f8, f9, f10, f11, f13, f14, f16, f27⟩ := id hf
  have hA := gA.1
  obtain ⟨r0, r1, rc, rp⟩ := id gr
  obtain ⟨hC8, hP8, hW⟩ := id hA
  refine zr_aload_n dX10_areEqual_0 rfl ?_
  refine zr_iload_n dX10_areEqual_1 rfl ?_
  refine zr_iload_n dX10_areEqual_2 rfl ?_
  refine zr_callVi [] dX10_areEqual_3 vX10_190 (qX10_isDividedX hX (p := p) (p2 := p2) h0 h1 gr hA hno) h0 (by decide) (by decide) (by decide) rfl rfl (Nat.le_of_ble_eq_true rfl) (by decide) rfl (fun r1 s1 h_ => ?_)
  obtain ⟨rfl, F1, g0⟩ := h_
  have kh1 : s1.1 (y + 1) = .inl (0, 82, .inl g) := zFr.get F1 (by omega) h1
  have kh2 : s1.1 (y + 2) = .inl (0, 656, .inl kp) := zFr.get F1 (by omega) h2
  have kh3 : s1.1 (y + 3) = .inl (0, 82, .inl sv) := zFr.get F1 (by omega) h3
  have kh4 : s1.1 (y + 4) = .inl (0, 82, .inl bf) := zFr.get F1 (by omega) h4
  have kh5 : s1.1 (y + 5) = .inl (0, 60, .inl ip) := zFr.get F1 (by omega) h5
  have kh6 : s1.1 (y + 6) = .inl (1, 400, .inl sg) := zFr.get F1 (by omega) h6
  have kh7 : s1.1 (y + 11) = .inl (0, 93, .inl td) := zFr.get F1 (by omega) h11
  have kR8 := zWa.fr hWa F1 (by intro q a b c; omega)
  have kR9 := zCy.fr hC F1 (by intro q a b c; omega)
  have kR10 := zXa.fr hX9 F1 (by intro q a b c; omega)
  have kR11 := zOa.fr hOt F1 (by intro q a b c; omega)
  have kF12 := zFr.tr zFr.rf (P := zMq y) F1 (by intro q hq; unfold zMq; omega)
  refine zr_if_eq (tgt := 20) dX10_areEqual_6 (by decide) (fun c_6 => ?_) (fun c_6 => absurd (by decide) c_6)
  refine zr_iconst (v := 0) dX10_areEqual_20 (by decide) ?_
  exact zr_ireturn dX10_areEqual_21 rfl (rfl) (⟨_, rfl, trivial, kF12, ⟨_, _, _, _, _, _, _, _, g0, ⟨f4, f5, f6, rfl, rfl, f9, f10, f11, f13, f14, f16, f27⟩, kh1, kh2, kh3, kh4, kh5, kh6, kh7, kR8, kR9, kR10, kR11, gr, gS, gK, hm8, gU, hn60, hT, hll, hln⟩⟩)

set_option maxHeartbeats 400000 in
set_option maxRecDepth 100000 in
theorem qX10_areEqualX2 {X : zX} (hX : X.1.stackTraces = false) {σ : zS} {y : Nat} {w tm cd dn : Int32} {K : zDk} {A S : zDk} {m : Nat} {U : Nat → zDk} {n : Nat} {T : Nat → Int32} {ll : Nat} {ln : Nat → Int32} {hs kf ld dt dc : Int32} {i : Nat} {p : Int32} (hM : zMo y w tm cd dn K A S m U n T ll ln hs kf ld dt dc σ) (gA : zGd A) (hi : i < kC A) (hno : ¬ (¬ p < 0 ∧ p < nI (kC A))) : zMet X mX10_areEqual yX10_areEqual 4 0 0 [.ref y, .int (nI i), .int p] σ (zI (fun y_ s => True ∧ zFr σ s (zMq y) ∧ zMo y w tm 1 0 K A S m U n T ll ln hs kf ld dt dc s)) := by
  refine zMet_of (ls := [some (.ref y), some (.int (nI i)), some (.int p)]) rfl (by decide +kernel) rfl (fun h => by cases h) hX (Nat.le_of_ble_eq_true rfl) rfl ?_
  obtain ⟨F, g, kp, sv, bf, ip, sg, td, h0, hf, h1, h2, h3, h4, h5, h6, h11, hWa, hC, hX9, hOt, gr, gS, gK, hm8, gU, hn60, hT, hll, hln⟩ := id hM
  obtain ⟨f4, f5, f6, f7, f8, f9, f10, f11, f13, f14, f16, f27⟩ := id hf
  have hA := gA.1
  obtain ⟨r0, r1, rc, rp⟩ := id gr
  obtain ⟨hC8, hP8, hW⟩ := id hA
  refine zr_aload_n dX10_areEqual_0 rfl ?_
  refine zr_iload_n dX10_areEqual_1 rfl ?_
  refine zr_iload_n dX10_areEqual_2 rfl ?_
  refine zr_callVi [] dX10_areEqual_3 vX10_190 (qX10_isDividedX2 hX (i := i) (p := p) h0 h1 gr hA hi hno) h0 (by decide) (by decide) (by decide) rfl rfl (Nat.le_of_ble_eq_true rfl) (by decide) rfl (fun r1 s1 h_ => ?_)
  obtain ⟨rfl, F1, g0⟩ := h_
  have kh1 : s1.1 (y + 1) = .inl (0, 82, .inl g) := zFr.get F1 (by omega) h1
  have kh2 : s1.1 (y + 2) = .inl (0, 656, .inl kp) := zFr.get F1 (by omega) h2
  have kh3 : s1.1 (y + 3) = .inl (0, 82, .inl sv) := zFr.get F1 (by omega) h3
  have kh4 : s1.1 (y + 4) = .inl (0, 82, .inl bf) := zFr.get F1 (by omega) h4
  have kh5 : s1.1 (y + 5) = .inl (0, 60, .inl ip) := zFr.get F1 (by omega) h5
  have kh6 : s1.1 (y + 6) = .inl (1, 400, .inl sg) := zFr.get F1 (by omega) h6
  have kh7 : s1.1 (y + 11) = .inl (0, 93, .inl td) := zFr.get F1 (by omega) h11
  have kR8 := zWa.fr hWa F1 (by intro q a b c; omega)
  have kR9 := zCy.fr hC F1 (by intro q a b c; omega)
  have kR10 := zXa.fr hX9 F1 (by intro q a b c; omega)
  have kR11 := zOa.fr hOt F1 (by intro q a b c; omega)
  have kF12 := zFr.tr zFr.rf (P := zMq y) F1 (by intro q hq; unfold zMq; omega)
  refine zr_if_eq (tgt := 20) dX10_areEqual_6 (by decide) (fun c_6 => ?_) (fun c_6 => absurd (by decide) c_6)
  refine zr_iconst (v := 0) dX10_areEqual_20 (by decide) ?_
  exact zr_ireturn dX10_areEqual_21 rfl (rfl) (⟨_, rfl, trivial, kF12, ⟨_, _, _, _, _, _, _, _, g0, ⟨f4, f5, f6, rfl, rfl, f9, f10, f11, f13, f14, f16, f27⟩, kh1, kh2, kh3, kh4, kh5, kh6, kh7, kR8, kR9, kR10, kR11, gr, gS, gK, hm8, gU, hn60, hT, hll, hln⟩⟩)

set_option maxHeartbeats 400000 in
set_option maxRecDepth 100000 in
theorem qX10_compare {X : zX} (hX : X.1.stackTraces = false) {σ : zS} {y : Nat} {w tm cd dn : Int32} {K : zDk} {A S : zDk} {m : Nat} {U : Nat → zDk} {n : Nat} {T : Nat → Int32} {ll : Nat} {ln : Nat → Int32} {hs kf ld dt dc : Int32} {i j : Nat} {q : Nat × List Int32} (hM : zMo y w tm cd dn K A S m U n T ll ln hs kf ld dt dc σ) (gA : zGd A) (hi : i < kC A) (hj : j < kC A) (hO : zRn 2000 [] (zWq A i j) = some q) : zMet X mX10_compare yX10_compare 4 0 0 [.ref y, .int (nI i), .int (nI j)] σ (zI (fun y_ s => y_ = zsW q.2 ∧ zFr σ s (zMq y) ∧ zMo y w tm 0 0 K A S m U n T ll ln hs kf ld dt dc s)) := by
  refine zMet_of (ls := [some (.ref y), some (.int (nI i)), some (.int (nI j))]) rfl (by decide +kernel) rfl (fun h => by cases h) hX (Nat.le_of_ble_eq_true rfl) rfl ?_
  obtain ⟨F, g, kp, sv, bf, ip, sg, td, h0, hf, h1, h2, h3, h4, h5, h6, h11, hWa, hC, hX9, hOt, gr, gS, gK, hm8, gU, hn60, hT, hll, hln⟩ := id hM
  obtain ⟨f4, f5, f6, f7, f8, f9, f10, f11, f13, f14, f16, f27⟩ := id hf
  have hA := gA.1
  obtain ⟨r0, r1, rc, rp⟩ := id gr
  obtain ⟨hC8, hP8, hW⟩ := id hA
  refine zr_aload_n dX10_compare_0 rfl ?_
  refine zr_iload_n dX10_compare_1 rfl ?_
  refine zr_iload_n dX10_compare_2 rfl ?_
  refine zr_callVi [] dX10_compare_3 vX10_190 (qX10_isDivided hX (i := i) (j := j) h0 h1 gr hA hi hj hO hWa hC) h0 (by decide) (by decide) (by decide) rfl rfl (Nat.le_of_ble_eq_true rfl) (by decide) rfl (fun r1 s1 h_ => ?_)
  obtain ⟨rfl, u1, v1, F1, g0, kW1, kC1, q20, q400⟩ := h_
  have kh1 : s1.1 (y + 1) = .inl (0, 82, .inl g) := zFr.get F1 (by omega) h1
  have kh2 : s1.1 (y + 2) = .inl (0, 656, .inl kp) := zFr.get F1 (by omega) h2
  have kh3 : s1.1 (y + 3) = .inl (0, 82, .inl sv) := zFr.get F1 (by omega) h3
  have kh4 : s1.1 (y + 4) = .inl (0, 82, .inl bf) := zFr.get F1 (by omega) h4
  have kh5 : s1.1 (y + 5) = .inl (0, 60, .inl ip) := zFr.get F1 (by omega) h5
  have kh6 : s1.1 (y + 6) = .inl (1, 400, .inl sg) := zFr.get F1 (by omega) h6
  have kh7 : s1.1 (y + 11) = .inl (0, 93, .inl td) := zFr.get F1 (by omega) h11
  have kR8 := zXa.fr hX9 F1 (by intro q a b c; omega)
  have kR9 := zOa.fr hOt F1 (by intro q a b c; omega)
  have kF10 := zFr.tr zFr.rf (P := zMq y) F1 (by intro q hq; unfold zMq; omega)
  refine zr_if_eq (tgt := 16) dX10_compare_6 (by decide) (fun c_6 => absurd c_6 (by decide)) (fun c_6 => ?_)
  refine zr_aload_n dX10_compare_9 rfl ?_
  refine zr_pVi [] dX10_compare_10 vX10_197 (qX10_signRelaxed hX g0 rfl kW1 (zRn_lt 2000 (zWq A i j) [] q.1 q.2 (fun z hz => by cases hz) (hA.wq (by omega) (by omega)) (by have := zWq_len hA (i := i) (j := j) (by omega) (by omega); rw [List.length_nil]; omega) hO) q400) g0 (by decide) (by decide) (by decide) rfl rfl (Nat.le_of_ble_eq_true rfl) (by decide) rfl ?_
  refine zr_goto (tgt := 17) dX10_compare_13 (by decide) ?_
  exact zr_ireturn dX10_compare_17 rfl (rfl) (⟨_, rfl, rfl, kF10, ⟨_, _, _, _, _, _, _, _, g0, ⟨f4, f5, f6, rfl, rfl, f9, f10, f11, f13, f14, f16, f27⟩, kh1, kh2, kh3, kh4, kh5, kh6, kh7, (kW1).wa, kC1, kR8, kR9, gr, gS, gK, hm8, gU, hn60, hT, hll, hln⟩⟩)

set_option maxHeartbeats 400000 in
set_option maxRecDepth 100000 in
theorem qX10_compareN {X : zX} (hX : X.1.stackTraces = false) {σ : zS} {y : Nat} {w tm cd dn : Int32} {K : zDk} {A S : zDk} {m : Nat} {U : Nat → zDk} {n : Nat} {T : Nat → Int32} {ll : Nat} {ln : Nat → Int32} {hs kf ld dt dc : Int32} {i j : Nat} (hM : zMo y w tm cd dn K A S m U n T ll ln hs kf ld dt dc σ) (gA : zGd A) (hi : i < kC A) (hj : j < kC A) (hO : zRn 2000 [] (zWq A i j) = none) : zMet X mX10_compare yX10_compare 4 0 0 [.ref y, .int (nI i), .int (nI j)] σ (zI (fun y_ s => True ∧ zFr σ s (zMq y) ∧ zMo y w tm 2 0 K A S m U n T ll ln hs kf ld dt dc s)) := by
  refine zMet_of (ls := [some (.ref y), some (.int (nI i)), some (.int (nI j))]) rfl (by decide +kernel) rfl (fun h => by cases h) hX (Nat.le_of_ble_eq_true rfl) rfl ?_
  obtain ⟨F, g, kp, sv, bf, ip, sg, td, h0, hf, h1, h2, h3, h4, h5, h6, h11, hWa, hC, hX9, hOt, gr, gS, gK, hm8, gU, hn60, hT, hll, hln⟩ := id hM
  obtain ⟨f4, f5, f6, f7, f8, f9, f10, f11, f13, f14, f16, f27⟩ := id hf
  have hA := gA.1
  obtain ⟨r0, r1, rc, rp⟩ := id gr
  obtain ⟨hC8, hP8, hW⟩ := id hA
  refine zr_aload_n dX10_compare_0 rfl ?_
  refine zr_iload_n dX10_compare_1 rfl ?_
  refine zr_iload_n dX10_compare_2 rfl ?_
  refine zr_callVi [] dX10_compare_3 vX10_190 (qX10_isDividedN hX (i := i) (j := j) h0 h1 gr hA hi hj hO hWa hC) h0 (by decide) (by decide) (by decide) rfl rfl (Nat.le_of_ble_eq_true rfl) (by decide) rfl (fun r1 s1 h_ => ?_)
  obtain ⟨rfl, m1, c1, u1, v1, F1, g0, kW1, kC1⟩ := h_
  have kh1 : s1.1 (y + 1) = .inl (0, 82, .inl g) := zFr.get F1 (by omega) h1
  have kh2 : s1.1 (y + 2) = .inl (0, 656, .inl kp) := zFr.get F1 (by omega) h2
  have kh3 : s1.1 (y + 3) = .inl (0, 82, .inl sv) := zFr.get F1 (by omega) h3
  have kh4 : s1.1 (y + 4) = .inl (0, 82, .inl bf) := zFr.get F1 (by omega) h4
  have kh5 : s1.1 (y + 5) = .inl (0, 60, .inl ip) := zFr.get F1 (by omega) h5
  have kh6 : s1.1 (y + 6) = .inl (1, 400, .inl sg) := zFr.get F1 (by omega) h6
  have kh7 : s1.1 (y + 11) = .inl (0, 93, .inl td) := zFr.get F1 (by omega) h11
  have kR8 := zXa.fr hX9 F1 (by intro q a b c; omega)
  have kR9 := zOa.fr hOt F1 (by intro q a b c; omega)
  have kF10 := zFr.tr zFr.rf (P := zMq y) F1 (by intro q hq; unfold zMq; omega)
  refine zr_if_eq (tgt := 16) dX10_compare_6 (by decide) (fun c_6 => ?_) (fun c_6 => absurd (by decide) c_6)
  refine zr_iconst (v := 0) dX10_compare_16 (by decide) ?_
  exact zr_ireturn dX10_compare_17 rfl (rfl) (⟨_, rfl, trivial, kF10, ⟨_, _, _, _, _, _, _, _, g0, ⟨f4, f5, f6, rfl, rfl, f9, f10, f11, f13, f14, f16, f27⟩, kh1, kh2, kh3, kh4, kh5, kh6, kh7, kW1, kC1, kR8, kR9, gr, gS, gK, hm8, gU, hn60, hT, hll, hln⟩⟩)

set_option maxHeartbeats 400000 in
set_option maxRecDepth 100000 in
theorem qX10_compareX {X : zX} (hX : X.1.stackTraces = false) {σ : zS} {y : Nat} {w tm cd dn : Int32} {K : zDk} {A S : zDk} {m : Nat} {U : Nat → zDk} {n : Nat} {T : Nat → Int32} {ll : Nat} {ln : Nat → Int32} {hs kf ld dt dc : Int32} {p : Int32} {p2 : Int32} (hM : zMo y w tm cd dn K A S m U n T ll ln hs kf ld dt dc σ) (gA : zGd A) (hno : ¬ (¬ p < 0 ∧ p < nI (kC A))) : zMet X mX10_compare yX10_compare 4 0 0 [.ref y, .int p, .int p2] σ (zI (fun y_ s => True ∧ zFr σ s (zMq y) ∧ zMo y w tm 1 0 K A S m U n T ll ln hs kf ld dt dc s)) := by
  refine zMet_of (ls := [some (.ref y), some (.int p), some (.int p2)]) rfl (by decide +kernel) rfl (fun h => by cases h) hX (Nat.le_of_ble_eq_true rfl) rfl ?_
  obtain ⟨F, g, kp, sv, bf, ip, sg, td, h0, hf, h1, h2, h3, h4, h5, h6, h11, hWa, hC, hX9, hOt, gr, gS, gK, hm8, gU, hn60, hT, hll, hln⟩ := id hM
  obtain ⟨f4, f5, f6, f7, f8, f9, f10, f11, f13, f14, f16, f27⟩ := id hf
  have hA := gA.1
  obtain ⟨r0, r1, rc, rp⟩ := id gr
  obtain ⟨hC8, hP8, hW⟩ := id hA
  refine zr_aload_n dX10_compare_0 rfl ?_
  refine zr_iload_n dX10_compare_1 rfl ?_
  refine zr_iload_n dX10_compare_2 rfl ?_
  refine zr_callVi [] dX10_compare_3 vX10_190 (qX10_isDividedX hX (p := p) (p2 := p2) h0 h1 gr hA hno) h0 (by decide) (by decide) (by decide) rfl rfl (Nat.le_of_ble_eq_true rfl) (by decide) rfl (fun r1 s1 h_ => ?_)
  obtain ⟨rfl, F1, g0⟩ := h_
  have kh1 : s1.1 (y + 1) = .inl (0, 82, .inl g) := zFr.get F1 (by omega) h1
  have kh2 : s1.1 (y + 2) = .inl (0, 656, .inl kp) := zFr.get F1 (by omega) h2
  have kh3 : s1.1 (y + 3) = .inl (0, 82, .inl sv) := zFr.get F1 (by omega) h3
  have kh4 : s1.1 (y + 4) = .inl (0, 82, .inl bf) := zFr.get F1 (by omega) h4
  have kh5 : s1.1 (y + 5) = .inl (0, 60, .inl ip) := zFr.get F1 (by omega) h5
  have kh6 : s1.1 (y + 6) = .inl (1, 400, .inl sg) := zFr.get F1 (by omega) h6
  have kh7 : s1.1 (y + 11) = .inl (0, 93, .inl td) := zFr.get F1 (by omega) h11
  have kR8 := zWa.fr hWa F1 (by intro q a b c; omega)
  have kR9 := zCy.fr hC F1 (by intro q a b c; omega)
  have kR10 := zXa.fr hX9 F1 (by intro q a b c; omega)
  have kR11 := zOa.fr hOt F1 (by intro q a b c; omega)
  have kF12 := zFr.tr zFr.rf (P := zMq y) F1 (by intro q hq; unfold zMq; omega)
  refine zr_if_eq (tgt := 16) dX10_compare_6 (by decide) (fun c_6 => ?_) (fun c_6 => absurd (by decide) c_6)
  refine zr_iconst (v := 0) dX10_compare_16 (by decide) ?_
  exact zr_ireturn dX10_compare_17 rfl (rfl) (⟨_, rfl, trivial, kF12, ⟨_, _, _, _, _, _, _, _, g0, ⟨f4, f5, f6, rfl, rfl, f9, f10, f11, f13, f14, f16, f27⟩, kh1, kh2, kh3, kh4, kh5, kh6, kh7, kR8, kR9, kR10, kR11, gr, gS, gK, hm8, gU, hn60, hT, hll, hln⟩⟩)

set_option maxHeartbeats 400000 in
set_option maxRecDepth 100000 in
theorem qX10_compareX2 {X : zX} (hX : X.1.stackTraces = false) {σ : zS} {y : Nat} {w tm cd dn : Int32} {K : zDk} {A S : zDk} {m : Nat} {U : Nat → zDk} {n : Nat} {T : Nat → Int32} {ll : Nat} {ln : Nat → Int32} {hs kf ld dt dc : Int32} {i : Nat} {p : Int32} (hM : zMo y w tm cd dn K A S m U n T ll ln hs kf ld dt dc σ) (gA : zGd A) (hi : i < kC A) (hno : ¬ (¬ p < 0 ∧ p < nI (kC A))) : zMet X mX10_compare yX10_compare 4 0 0 [.ref y, .int (nI i), .int p] σ (zI (fun y_ s => True ∧ zFr σ s (zMq y) ∧ zMo y w tm 1 0 K A S m U n T ll ln hs kf ld dt dc s)) := by
  refine zMet_of (ls := [some (.ref y), some (.int (nI i)), some (.int p)]) rfl (by decide +kernel) rfl (fun h => by cases h) hX (Nat.le_of_ble_eq_true rfl) rfl ?_
  obtain ⟨F, g, kp, sv, bf, ip, sg, td, h0, hf, h1, h2, h3, h4, h5, h6, h11, hWa, hC, hX9, hOt, gr, gS, gK, hm8, gU, hn60, hT, hll, hln⟩ := id hM
  obtain ⟨f4, f5, f6, f7, f8, f9, f10, f11, f13, f14, f16, f27⟩ := id hf
  have hA := gA.1
  obtain ⟨r0, r1, rc, rp⟩ := id gr
  obtain ⟨hC8, hP8, hW⟩ := id hA
  refine zr_aload_n dX10_compare_0 rfl ?_
  refine zr_iload_n dX10_compare_1 rfl ?_
  refine zr_iload_n dX10_compare_2 rfl ?_
  refine zr_callVi [] dX10_compare_3 vX10_190 (qX10_isDividedX2 hX (i := i) (p := p) h0 h1 gr hA hi hno) h0 (by decide) (by decide) (by decide) rfl rfl (Nat.le_of_ble_eq_true rfl) (by decide) rfl (fun r1 s1 h_ => ?_)
  obtain ⟨rfl, F1, g0⟩ := h_
  have kh1 : s1.1 (y + 1) = .inl (0, 82, .inl g) := zFr.get F1 (by omega) h1
  have kh2 : s1.1 (y + 2) = .inl (0, 656, .inl kp) := zFr.get F1 (by omega) h2
  have kh3 : s1.1 (y + 3) = .inl (0, 82, .inl sv) := zFr.get F1 (by omega) h3
  have kh4 : s1.1 (y + 4) = .inl (0, 82, .inl bf) := zFr.get F1 (by omega) h4
  have kh5 : s1.1 (y + 5) = .inl (0, 60, .inl ip) := zFr.get F1 (by omega) h5
  have kh6 : s1.1 (y + 6) = .inl (1, 400, .inl sg) := zFr.get F1 (by omega) h6
  have kh7 : s1.1 (y + 11) = .inl (0, 93, .inl td) := zFr.get F1 (by omega) h11
  have kR8 := zWa.fr hWa F1 (by intro q a b c; omega)
  have kR9 := zCy.fr hC F1 (by intro q a b c; omega)
  have kR10 := zXa.fr hX9 F1 (by intro q a b c; omega)
  have kR11 := zOa.fr hOt F1 (by intro q a b c; omega)
  have kF12 := zFr.tr zFr.rf (P := zMq y) F1 (by intro q hq; unfold zMq; omega)
  refine zr_if_eq (tgt := 16) dX10_compare_6 (by decide) (fun c_6 => ?_) (fun c_6 => absurd (by decide) c_6)
  refine zr_iconst (v := 0) dX10_compare_16 (by decide) ?_
  exact zr_ireturn dX10_compare_17 rfl (rfl) (⟨_, rfl, trivial, kF12, ⟨_, _, _, _, _, _, _, _, g0, ⟨f4, f5, f6, rfl, rfl, f9, f10, f11, f13, f14, f16, f27⟩, kh1, kh2, kh3, kh4, kh5, kh6, kh7, kR8, kR9, kR10, kR11, gr, gS, gK, hm8, gU, hn60, hT, hll, hln⟩⟩)

set_option maxHeartbeats 400000 in
set_option maxRecDepth 100000 in
theorem qX10_coordinate {X : zX} (hX : X.1.stackTraces = false) {σ : zS} {y : Nat} {w tm cd dn : Int32} {K : zDk} {A S : zDk} {m : Nat} {U : Nat → zDk} {n : Nat} {T : Nat → Int32} {ll : Nat} {ln : Nat → Int32} {hs kf ld dt dc : Int32} {i j : Nat} (hM : zMo y w tm cd dn K A S m U n T ll ln hs kf ld dt dc σ) (gA : zGd A) (hi : i < kC A) (hj10 : j < 10) : zMet X mX10_coordinate yX10_coordinate 4 0 0 [.ref y, .int (nI i), .int (nI j)] σ (zJ (fun y_ s => y_ = lI (zcw A i j) ∧ zFr σ s (zMq y) ∧ zMo y w tm 0 0 K A S m U n T ll ln hs kf ld dt dc s)) := by
  refine zMet_of (ls := [some (.ref y), some (.int (nI i)), some (.int (nI j))]) rfl (by decide +kernel) rfl (fun h => by cases h) hX (Nat.le_of_ble_eq_true rfl) rfl ?_
  obtain ⟨F, g, kp, sv, bf, ip, sg, td, h0, hf, h1, h2, h3, h4, h5, h6, h11, hWa, hC, hX9, hOt, gr, gS, gK, hm8, gU, hn60, hT, hll, hln⟩ := id hM
  obtain ⟨f4, f5, f6, f7, f8, f9, f10, f11, f13, f14, f16, f27⟩ := id hf
  have hA := gA.1
  obtain ⟨r0, r1, rc, rp⟩ := id gr
  obtain ⟨hC8, hP8, hW⟩ := id hA
  refine zr_aload_n dX10_coordinate_0 rfl ?_
  refine zr_aload_n dX10_coordinate_1 rfl ?_
  refine zr_iload_n dX10_coordinate_2 rfl ?_
  refine zr_pVi [.ref y] dX10_coordinate_3 vX10_131 (qX10_isCase hX (p := nI i) h0 h1 r0 (by omega)) h0 (by decide) (by decide) (by decide) rfl rfl (Nat.le_of_ble_eq_true rfl) (by decide) rfl ?_
  refine zr_if_ne (tgt := 13) dX10_coordinate_6 (by decide) (fun c_6 => ?_) (fun c_6 => absurd c_6 (fun q => ite10.mp q (isin_y hi (by omega))))
  refine zr_iload_n dX10_coordinate_13 rfl ?_
  refine zr_iconst (v := 0) dX10_coordinate_14 (by decide) ?_
  refine zr_bipush (v := 9) dX10_coordinate_15 (by decide) ?_
  refine zr_pSi [.ref y] dX10_coordinate_17 vX10_75 (qX10_in hX (v := nI j) (l := 0) (h := 9)) (by decide) (by decide) (by decide) rfl rfl (Nat.le_of_ble_eq_true rfl) rfl ?_
  refine zr_eqi (x' := (if ¬ nI j < 0 ∧ nI j < nI 10 then 1 else 0)) (isin_if (c := 10) (by omega)) ?_
  refine zr_if_eq (tgt := 27) dX10_coordinate_20 (by decide) (fun c_20 => absurd c_20 (fun q => ite10.mp q (isin_y (c := 10) hj10 (by omega)))) (fun c_20 => ?_)
  refine zr_iconst (v := 0) dX10_coordinate_23 (by decide) ?_
  refine zr_goto (tgt := 28) dX10_coordinate_24 (by decide) ?_
  refine zr_callVi [] dX10_coordinate_28 vX10_135 (qX10_fails hX (p := 0) h0) h0 (by decide) (by decide) (by decide) rfl rfl (Nat.le_of_ble_eq_true rfl) (by decide) rfl (fun kr1 s_kr1 h_kr1 => ?_)
  obtain ⟨e_kr1, F_kr1, g0_kr1⟩ := h_kr1
  have kh2 : s_kr1.1 (y + 1) = .inl (0, 82, .inl g) := zFr.get F_kr1 (by omega) h1
  have kh3 : s_kr1.1 (y + 2) = .inl (0, 656, .inl kp) := zFr.get F_kr1 (by omega) h2
  have kh4 : s_kr1.1 (y + 3) = .inl (0, 82, .inl sv) := zFr.get F_kr1 (by omega) h3
  have kh5 : s_kr1.1 (y + 4) = .inl (0, 82, .inl bf) := zFr.get F_kr1 (by omega) h4
  have kh6 : s_kr1.1 (y + 5) = .inl (0, 60, .inl ip) := zFr.get F_kr1 (by omega) h5
  have kh7 : s_kr1.1 (y + 6) = .inl (1, 400, .inl sg) := zFr.get F_kr1 (by omega) h6
  have kh8 : s_kr1.1 (y + 11) = .inl (0, 93, .inl td) := zFr.get F_kr1 (by omega) h11
  have kR9 : zWa y s_kr1 := zWa.fr hWa F_kr1 (by intro q h1 h2 h3; (try simp only [zIn, zJf] at h3); omega)
  have kR10 : zCy y s_kr1 := zCy.fr hC F_kr1 (by intro q h1 h2 h3; (try simp only [zIn, zJf] at h3); omega)
  have kR11 : zXa y s_kr1 := zXa.fr hX9 F_kr1 (by intro q h1 h2 h3; (try simp only [zIn, zJf] at h3); omega)
  have kR12 : zOa y s_kr1 := zOa.fr hOt F_kr1 (by intro q h1 h2 h3; (try simp only [zIn, zJf] at h3); omega)
  have kF13 := zFr.tr zFr.rf (P := zMq y) F_kr1 (by intro q hq; unfold zMq; omega)
  replace e_kr1 := e_kr1.trans (if_pos (by decide) : (_ : Int32) = 0)
  obtain rfl := e_kr1.symm
  refine zr_if_eq (tgt := 36) dX10_coordinate_31 (by decide) (fun c_31 => ?_) (fun c_31 => absurd (by decide) c_31)
  refine zr_aload_n dX10_coordinate_36 rfl ?_
  refine zr_iload_n dX10_coordinate_37 rfl ?_
  refine zr_pSi [.ref y] dX10_coordinate_38 vX10_138 (qX10_caseAt hX (i := i)) (by decide) (by decide) (by decide) rfl rfl (Nat.le_of_ble_eq_true rfl) rfl ?_
  refine zr_callVv [] dX10_coordinate_41 vX10_128 (qM_take hX (i := i) g0_kr1 kh2 gr hA (by omega) kR9) g0_kr1 (by decide) (by decide) (by decide) rfl rfl (Nat.le_of_ble_eq_true rfl) (by decide) rfl (fun s_kr14 h_kr14 => ?_)
  obtain ⟨F_kr14, g0_kr14, r0_kr14⟩ := h_kr14
  have kh15 : s_kr14.1 (y + 1) = .inl (0, 82, .inl g) := zFr.get F_kr14 (by omega) kh2
  have kh16 : s_kr14.1 (y + 2) = .inl (0, 656, .inl kp) := zFr.get F_kr14 (by omega) kh3
  have kh17 : s_kr14.1 (y + 3) = .inl (0, 82, .inl sv) := zFr.get F_kr14 (by omega) kh4
  have kh18 : s_kr14.1 (y + 4) = .inl (0, 82, .inl bf) := zFr.get F_kr14 (by omega) kh5
  have kh19 : s_kr14.1 (y + 5) = .inl (0, 60, .inl ip) := zFr.get F_kr14 (by omega) kh6
  have kh20 : s_kr14.1 (y + 6) = .inl (1, 400, .inl sg) := zFr.get F_kr14 (by omega) kh7
  have kh21 : s_kr14.1 (y + 11) = .inl (0, 93, .inl td) := zFr.get F_kr14 (by omega) kh8
  have kR22 : zCy y s_kr14 := zCy.fr kR10 F_kr14 (by intro q h1 h2 h3; (try simp only [zIn, zJf] at h3); omega)
  have kR23 : zXa y s_kr14 := zXa.fr kR11 F_kr14 (by intro q h1 h2 h3; (try simp only [zIn, zJf] at h3); omega)
  have kR24 : zOa y s_kr14 := zOa.fr kR12 F_kr14 (by intro q h1 h2 h3; (try simp only [zIn, zJf] at h3); omega)
  have kF25 := zFr.tr kF13 F_kr14 (by intro q hq; unfold zMq; omega)
  refine zr_aload_n dX10_coordinate_44 rfl ?_
  refine zr_callVv [] dX10_coordinate_45 vX10_125 (qX10_measures hX g0_kr14 (by rw [zWd_l]; rfl) r0_kr14 (hA.wd (by omega)) (by have := zWd_len hA (i := i) (by omega); omega) kR23) g0_kr14 (by decide) (by decide) (by decide) rfl rfl (Nat.le_of_ble_eq_true rfl) (by decide) rfl (fun s_kr26 h_kr26 => ?_)
  obtain ⟨F_kr26, r0_kr26⟩ := h_kr26
  have kh27 : s_kr26.1 y = zmO y (upd (upd (upd F 7 0) 8 0) 19 (nI (kN A i))) := zFr.get F_kr26 (by omega) g0_kr14
  have kh28 : s_kr26.1 (y + 1) = .inl (0, 82, .inl g) := zFr.get F_kr26 (by omega) kh15
  have kh29 : s_kr26.1 (y + 2) = .inl (0, 656, .inl kp) := zFr.get F_kr26 (by omega) kh16
  have kh30 : s_kr26.1 (y + 3) = .inl (0, 82, .inl sv) := zFr.get F_kr26 (by omega) kh17
  have kh31 : s_kr26.1 (y + 4) = .inl (0, 82, .inl bf) := zFr.get F_kr26 (by omega) kh18
  have kh32 : s_kr26.1 (y + 5) = .inl (0, 60, .inl ip) := zFr.get F_kr26 (by omega) kh19
  have kh33 : s_kr26.1 (y + 6) = .inl (1, 400, .inl sg) := zFr.get F_kr26 (by omega) kh20
  have kh34 : s_kr26.1 (y + 11) = .inl (0, 93, .inl td) := zFr.get F_kr26 (by omega) kh21
  have kR35 : zWk y (zWd A i) s_kr26 := zWk.fr r0_kr14 F_kr26 (by intro q h1 h2 h3; (try simp only [zIn, zJf] at h3); omega)
  have kR36 : zCy y s_kr26 := zCy.fr kR22 F_kr26 (by intro q h1 h2 h3; (try simp only [zIn, zJf] at h3); omega)
  have kR37 : zOa y s_kr26 := zOa.fr kR24 F_kr26 (by intro q h1 h2 h3; (try simp only [zIn, zJf] at h3); omega)
  have kF38 := zFr.tr kF25 F_kr26 (by intro q hq; unfold zMq; omega)
  refine zr_aload_n dX10_coordinate_48 rfl ?_
  obtain ⟨xw39, xs39, xc39⟩ := id r0_kr26
  refine zr_getM (v := .ref (y + 9)) dX10_coordinate_49 fX10_39 kh27 rfl ?_
  refine zr_iload_n dX10_coordinate_52 rfl ?_
  refine zr_laload dX10_coordinate_53 xc39 (vp_in_nI (n := j) (by omega) (by omega)) ?_
  rw [nI_clamp (n := j) (by omega)]
  refine zr_eql (x' := lI (xw39 j)) rfl ?_
  exact zr_lreturn dX10_coordinate_54 rfl (⟨_, rfl, congrArg lI (xs39 j hj10), kF38, ⟨_, _, _, _, _, _, _, _, kh27, ⟨f4, f5, f6, rfl, rfl, f9, f10, f11, f13, f14, f16, f27⟩, kh28, kh29, kh30, kh31, kh32, kh33, kh34, (kR35).wa, kR36, (r0_kr26).a, kR37, gr, gS, gK, hm8, gU, hn60, hT, hll, hln⟩⟩)

set_option maxHeartbeats 400000 in
set_option maxRecDepth 100000 in
theorem qX10_coordinateN {X : zX} (hX : X.1.stackTraces = false) {σ : zS} {y : Nat} {w tm cd dn : Int32} {K : zDk} {A S : zDk} {m : Nat} {U : Nat → zDk} {n : Nat} {T : Nat → Int32} {ll : Nat} {ln : Nat → Int32} {hs kf ld dt dc : Int32} {i : Nat} {p : Int32} (hM : zMo y w tm cd dn K A S m U n T ll ln hs kf ld dt dc σ) (gA : zGd A) (hi : i < kC A) (hno : ¬ (¬ p < 0 ∧ p < 10)) : zMet X mX10_coordinate yX10_coordinate 4 0 0 [.ref y, .int (nI i), .int p] σ (zJ (fun y_ s => True ∧ zFr σ s (zMq y) ∧ zMo y w tm 2 0 K A S m U n T ll ln hs kf ld dt dc s)) := by
  refine zMet_of (ls := [some (.ref y), some (.int (nI i)), some (.int p)]) rfl (by decide +kernel) rfl (fun h => by cases h) hX (Nat.le_of_ble_eq_true rfl) rfl ?_
  obtain ⟨F, g, kp, sv, bf, ip, sg, td, h0, hf, h1, h2, h3, h4, h5, h6, h11, hWa, hC, hX9, hOt, gr, gS, gK, hm8, gU, hn60, hT, hll, hln⟩ := id hM
  obtain ⟨f4, f5, f6, f7, f8, f9, f10, f11, f13, f14, f16, f27⟩ := id hf
  have hA := gA.1
  obtain ⟨r0, r1, rc, rp⟩ := id gr
  obtain ⟨hC8, hP8, hW⟩ := id hA
  refine zr_aload_n dX10_coordinate_0 rfl ?_
  refine zr_aload_n dX10_coordinate_1 rfl ?_
  refine zr_iload_n dX10_coordinate_2 rfl ?_
  refine zr_pVi [.ref y] dX10_coordinate_3 vX10_131 (qX10_isCase hX (p := nI i) h0 h1 r0 (by omega)) h0 (by decide) (by decide) (by decide) rfl rfl (Nat.le_of_ble_eq_true rfl) (by decide) rfl ?_
  refine zr_if_ne (tgt := 13) dX10_coordinate_6 (by decide) (fun c_6 => ?_) (fun c_6 => absurd c_6 (fun q => ite10.mp q (isin_y hi (by omega))))
  refine zr_iload_n dX10_coordinate_13 rfl ?_
  refine zr_iconst (v := 0) dX10_coordinate_14 (by decide) ?_
  refine zr_bipush (v := 9) dX10_coordinate_15 (by decide) ?_
  refine zr_pSi [.ref y] dX10_coordinate_17 vX10_75 (qX10_in hX (v := p) (l := 0) (h := 9)) (by decide) (by decide) (by decide) rfl rfl (Nat.le_of_ble_eq_true rfl) rfl ?_
  refine zr_eqi (x' := (if ¬ p < 0 ∧ p < nI 10 then 1 else 0)) (isin_if (c := 10) (by omega)) ?_
  refine zr_if_eq (tgt := 27) dX10_coordinate_20 (by decide) (fun c_20 => ?_) (fun c_20 => absurd (ite10.mpr hno) c_20)
  refine zr_iconst (v := 2) dX10_coordinate_27 (by decide) ?_
  refine zr_callVi [] dX10_coordinate_28 vX10_135 (qX10_fails hX (p := 2) h0) h0 (by decide) (by decide) (by decide) rfl rfl (Nat.le_of_ble_eq_true rfl) (by decide) rfl (fun kr1 s_kr1 h_kr1 => ?_)
  obtain ⟨e_kr1, F_kr1, g0_kr1⟩ := h_kr1
  have kh2 : s_kr1.1 (y + 1) = .inl (0, 82, .inl g) := zFr.get F_kr1 (by omega) h1
  have kh3 : s_kr1.1 (y + 2) = .inl (0, 656, .inl kp) := zFr.get F_kr1 (by omega) h2
  have kh4 : s_kr1.1 (y + 3) = .inl (0, 82, .inl sv) := zFr.get F_kr1 (by omega) h3
  have kh5 : s_kr1.1 (y + 4) = .inl (0, 82, .inl bf) := zFr.get F_kr1 (by omega) h4
  have kh6 : s_kr1.1 (y + 5) = .inl (0, 60, .inl ip) := zFr.get F_kr1 (by omega) h5
  have kh7 : s_kr1.1 (y + 6) = .inl (1, 400, .inl sg) := zFr.get F_kr1 (by omega) h6
  have kh8 : s_kr1.1 (y + 11) = .inl (0, 93, .inl td) := zFr.get F_kr1 (by omega) h11
  have kR9 : zWa y s_kr1 := zWa.fr hWa F_kr1 (by intro q h1 h2 h3; (try simp only [zIn, zJf] at h3); omega)
  have kR10 : zCy y s_kr1 := zCy.fr hC F_kr1 (by intro q h1 h2 h3; (try simp only [zIn, zJf] at h3); omega)
  have kR11 : zXa y s_kr1 := zXa.fr hX9 F_kr1 (by intro q h1 h2 h3; (try simp only [zIn, zJf] at h3); omega)
  have kR12 : zOa y s_kr1 := zOa.fr hOt F_kr1 (by intro q h1 h2 h3; (try simp only [zIn, zJf] at h3); omega)
  have kF13 := zFr.tr zFr.rf (P := zMq y) F_kr1 (by intro q hq; unfold zMq; omega)
  replace e_kr1 := e_kr1.trans (if_neg (by decide) : (_ : Int32) = 1)
  obtain rfl := e_kr1.symm
  refine zr_if_eq (tgt := 36) dX10_coordinate_31 (by decide) (fun c_31 => absurd c_31 (by decide)) (fun c_31 => ?_)
  refine zr_lconst (v := lI 0) dX10_coordinate_34 (by decide) ?_
  exact zr_lreturn dX10_coordinate_35 rfl (⟨_, rfl, trivial, kF13, ⟨_, _, _, _, _, _, _, _, g0_kr1, ⟨f4, f5, f6, rfl, rfl, f9, f10, f11, f13, f14, f16, f27⟩, kh2, kh3, kh4, kh5, kh6, kh7, kh8, kR9, kR10, kR11, kR12, gr, gS, gK, hm8, gU, hn60, hT, hll, hln⟩⟩)

set_option maxHeartbeats 400000 in
set_option maxRecDepth 100000 in
theorem qX10_coordinateX {X : zX} (hX : X.1.stackTraces = false) {σ : zS} {y : Nat} {w tm cd dn : Int32} {K : zDk} {A S : zDk} {m : Nat} {U : Nat → zDk} {n : Nat} {T : Nat → Int32} {ll : Nat} {ln : Nat → Int32} {hs kf ld dt dc : Int32} {p p2 : Int32} (hM : zMo y w tm cd dn K A S m U n T ll ln hs kf ld dt dc σ) (gA : zGd A) (hno : ¬ (¬ p < 0 ∧ p < nI (kC A))) : zMet X mX10_coordinate yX10_coordinate 4 0 0 [.ref y, .int p, .int p2] σ (zJ (fun y_ s => True ∧ zFr σ s (zMq y) ∧ zMo y w tm 1 0 K A S m U n T ll ln hs kf ld dt dc s)) := by
  refine zMet_of (ls := [some (.ref y), some (.int p), some (.int p2)]) rfl (by decide +kernel) rfl (fun h => by cases h) hX (Nat.le_of_ble_eq_true rfl) rfl ?_
  obtain ⟨F, g, kp, sv, bf, ip, sg, td, h0, hf, h1, h2, h3, h4, h5, h6, h11, hWa, hC, hX9, hOt, gr, gS, gK, hm8, gU, hn60, hT, hll, hln⟩ := id hM
  obtain ⟨f4, f5, f6, f7, f8, f9, f10, f11, f13, f14, f16, f27⟩ := id hf
  have hA := gA.1
  obtain ⟨r0, r1, rc, rp⟩ := id gr
  obtain ⟨hC8, hP8, hW⟩ := id hA
  refine zr_aload_n dX10_coordinate_0 rfl ?_
  refine zr_aload_n dX10_coordinate_1 rfl ?_
  refine zr_iload_n dX10_coordinate_2 rfl ?_
  refine zr_pVi [.ref y] dX10_coordinate_3 vX10_131 (qX10_isCase hX (p := p) h0 h1 r0 (by omega)) h0 (by decide) (by decide) (by decide) rfl rfl (Nat.le_of_ble_eq_true rfl) (by decide) rfl ?_
  refine zr_if_ne (tgt := 13) dX10_coordinate_6 (by decide) (fun c_6 => absurd (ite10.mpr hno) c_6) (fun c_6 => ?_)
  refine zr_iconst (v := 1) dX10_coordinate_9 (by decide) ?_
  refine zr_goto (tgt := 28) dX10_coordinate_10 (by decide) ?_
  refine zr_callVi [] dX10_coordinate_28 vX10_135 (qX10_fails hX (p := 1) h0) h0 (by decide) (by decide) (by decide) rfl rfl (Nat.le_of_ble_eq_true rfl) (by decide) rfl (fun kr1 s_kr1 h_kr1 => ?_)
  obtain ⟨e_kr1, F_kr1, g0_kr1⟩ := h_kr1
  have kh2 : s_kr1.1 (y + 1) = .inl (0, 82, .inl g) := zFr.get F_kr1 (by omega) h1
  have kh3 : s_kr1.1 (y + 2) = .inl (0, 656, .inl kp) := zFr.get F_kr1 (by omega) h2
  have kh4 : s_kr1.1 (y + 3) = .inl (0, 82, .inl sv) := zFr.get F_kr1 (by omega) h3
  have kh5 : s_kr1.1 (y + 4) = .inl (0, 82, .inl bf) := zFr.get F_kr1 (by omega) h4
  have kh6 : s_kr1.1 (y + 5) = .inl (0, 60, .inl ip) := zFr.get F_kr1 (by omega) h5
  have kh7 : s_kr1.1 (y + 6) = .inl (1, 400, .inl sg) := zFr.get F_kr1 (by omega) h6
  have kh8 : s_kr1.1 (y + 11) = .inl (0, 93, .inl td) := zFr.get F_kr1 (by omega) h11
  have kR9 : zWa y s_kr1 := zWa.fr hWa F_kr1 (by intro q h1 h2 h3; (try simp only [zIn, zJf] at h3); omega)
  have kR10 : zCy y s_kr1 := zCy.fr hC F_kr1 (by intro q h1 h2 h3; (try simp only [zIn, zJf] at h3); omega)
  have kR11 : zXa y s_kr1 := zXa.fr hX9 F_kr1 (by intro q h1 h2 h3; (try simp only [zIn, zJf] at h3); omega)
  have kR12 : zOa y s_kr1 := zOa.fr hOt F_kr1 (by intro q h1 h2 h3; (try simp only [zIn, zJf] at h3); omega)
  have kF13 := zFr.tr zFr.rf (P := zMq y) F_kr1 (by intro q hq; unfold zMq; omega)
  replace e_kr1 := e_kr1.trans (if_neg (by decide) : (_ : Int32) = 1)
  obtain rfl := e_kr1.symm
  refine zr_if_eq (tgt := 36) dX10_coordinate_31 (by decide) (fun c_31 => absurd c_31 (by decide)) (fun c_31 => ?_)
  refine zr_lconst (v := lI 0) dX10_coordinate_34 (by decide) ?_
  exact zr_lreturn dX10_coordinate_35 rfl (⟨_, rfl, trivial, kF13, ⟨_, _, _, _, _, _, _, _, g0_kr1, ⟨f4, f5, f6, rfl, rfl, f9, f10, f11, f13, f14, f16, f27⟩, kh2, kh3, kh4, kh5, kh6, kh7, kh8, kR9, kR10, kR11, kR12, gr, gS, gK, hm8, gU, hn60, hT, hll, hln⟩⟩)

set_option maxHeartbeats 400000 in
set_option maxRecDepth 100000 in
theorem qX10_compareByCoordinates {X : zX} (hX : X.1.stackTraces = false) {σ : zS} {y : Nat} {w tm cd dn : Int32} {K : zDk} {A S : zDk} {m : Nat} {U : Nat → zDk} {n : Nat} {T : Nat → Int32} {ll : Nat} {ln : Nat → Int32} {hs kf ld dt dc : Int32} {i j : Nat} (hM : zMo y w tm cd dn K A S m U n T ll ln hs kf ld dt dc σ) (gA : zGd A) (hi : i < kC A) (hj : j < kC A) : zMet X mX10_compareByCoordinates yX10_compareByCoordinates 5 0 0 [.ref y, .int (nI i), .int (nI j)] σ (zI (fun y_ s => y_ = zqs A i j ∧ zFr σ s (zMq y) ∧ zMo y w tm 0 0 K A S m U n T ll ln hs kf ld dt dc s)) := by
  refine zMet_of (ls := [some (.ref y), some (.int (nI i)), some (.int (nI j))]) rfl (by decide +kernel) rfl (fun h => by cases h) hX (Nat.le_of_ble_eq_true rfl) rfl ?_
  obtain ⟨F, g, kp, sv, bf, ip, sg, td, h0, hf, h1, h2, h3, h4, h5, h6, h11, hWa, hC, hX9, hOt, gr, gS, gK, hm8, gU, hn60, hT, hll, hln⟩ := id hM
  obtain ⟨f4, f5, f6, f7, f8, f9, f10, f11, f13, f14, f16, f27⟩ := id hf
  have hA := gA.1
  obtain ⟨r0, r1, rc, rp⟩ := id gr
  obtain ⟨hC8, hP8, hW⟩ := id hA
  refine zr_aload_n dX10_compareByCoordinates_0 rfl ?_
  refine zr_aload_n dX10_compareByCoordinates_1 rfl ?_
  refine zr_iload_n dX10_compareByCoordinates_2 rfl ?_
  refine zr_pVi [.ref y] dX10_compareByCoordinates_3 vX10_131 (qX10_isCase hX (p := nI i) h0 h1 r0 (by omega)) h0 (by decide) (by decide) (by decide) rfl rfl (Nat.le_of_ble_eq_true rfl) (by decide) rfl ?_
  refine zr_if_eq (tgt := 21) dX10_compareByCoordinates_6 (by decide) (fun c_6 => absurd c_6 (fun q => ite10.mp q (isin_y hi (by omega)))) (fun c_6 => ?_)
  refine zr_aload_n dX10_compareByCoordinates_9 rfl ?_
  refine zr_iload_n dX10_compareByCoordinates_10 rfl ?_
  refine zr_pVi [.ref y] dX10_compareByCoordinates_11 vX10_131 (qX10_isCase hX (p := nI j) h0 h1 r0 (by omega)) h0 (by decide) (by decide) (by decide) rfl rfl (Nat.le_of_ble_eq_true rfl) (by decide) rfl ?_
  refine zr_if_eq (tgt := 21) dX10_compareByCoordinates_14 (by decide) (fun c_14 => absurd c_14 (fun q => ite10.mp q (isin_y hj (by omega)))) (fun c_14 => ?_)
  refine zr_iconst (v := 0) dX10_compareByCoordinates_17 (by decide) ?_
  refine zr_goto (tgt := 22) dX10_compareByCoordinates_18 (by decide) ?_
  refine zr_callVi [] dX10_compareByCoordinates_22 vX10_135 (qX10_fails hX (p := 0) h0) h0 (by decide) (by decide) (by decide) rfl rfl (Nat.le_of_ble_eq_true rfl) (by decide) rfl (fun kr1 s_kr1 h_kr1 => ?_)
  obtain ⟨e_kr1, F_kr1, g0_kr1⟩ := h_kr1
  have kh2 : s_kr1.1 (y + 1) = .inl (0, 82, .inl g) := zFr.get F_kr1 (by omega) h1
  have kh3 : s_kr1.1 (y + 2) = .inl (0, 656, .inl kp) := zFr.get F_kr1 (by omega) h2
  have kh4 : s_kr1.1 (y + 3) = .inl (0, 82, .inl sv) := zFr.get F_kr1 (by omega) h3
  have kh5 : s_kr1.1 (y + 4) = .inl (0, 82, .inl bf) := zFr.get F_kr1 (by omega) h4
  have kh6 : s_kr1.1 (y + 5) = .inl (0, 60, .inl ip) := zFr.get F_kr1 (by omega) h5
  have kh7 : s_kr1.1 (y + 6) = .inl (1, 400, .inl sg) := zFr.get F_kr1 (by omega) h6
  have kh8 : s_kr1.1 (y + 11) = .inl (0, 93, .inl td) := zFr.get F_kr1 (by omega) h11
  have kR9 : zWa y s_kr1 := zWa.fr hWa F_kr1 (by intro q h1 h2 h3; (try simp only [zIn, zJf] at h3); omega)
  have kR10 : zCy y s_kr1 := zCy.fr hC F_kr1 (by intro q h1 h2 h3; (try simp only [zIn, zJf] at h3); omega)
  have kR11 : zXa y s_kr1 := zXa.fr hX9 F_kr1 (by intro q h1 h2 h3; (try simp only [zIn, zJf] at h3); omega)
  have kR12 : zOa y s_kr1 := zOa.fr hOt F_kr1 (by intro q h1 h2 h3; (try simp only [zIn, zJf] at h3); omega)
  have kF13 := zFr.tr zFr.rf (P := zMq y) F_kr1 (by intro q hq; unfold zMq; omega)
  replace e_kr1 := e_kr1.trans (if_pos (by decide) : (_ : Int32) = 0)
  obtain rfl := e_kr1.symm
  refine zr_if_eq (tgt := 32) dX10_compareByCoordinates_25 (by decide) (fun c_25 => ?_) (fun c_25 => absurd (by decide) c_25)
  refine zr_aload_n dX10_compareByCoordinates_32 rfl ?_
  refine zr_iload_n dX10_compareByCoordinates_33 rfl ?_
  refine zr_iload_n dX10_compareByCoordinates_34 rfl ?_
  refine zr_callVi [] dX10_compareByCoordinates_35 vX10_204 (qX10_order hX (i := i) (j := j) g0_kr1 kh2 gr hA (by omega) (by omega) kR9 kR11) g0_kr1 (by decide) (by decide) (by decide) rfl rfl (Nat.le_of_ble_eq_true rfl) (by decide) rfl (fun kr14 s_kr14 h_kr14 => ?_)
  obtain ⟨e_kr14, F_kr14, g0_kr14, r0_kr14, r1_kr14⟩ := h_kr14
  have kh15 : s_kr14.1 (y + 1) = .inl (0, 82, .inl g) := zFr.get F_kr14 (by omega) kh2
  have kh16 : s_kr14.1 (y + 2) = .inl (0, 656, .inl kp) := zFr.get F_kr14 (by omega) kh3
  have kh17 : s_kr14.1 (y + 3) = .inl (0, 82, .inl sv) := zFr.get F_kr14 (by omega) kh4
  have kh18 : s_kr14.1 (y + 4) = .inl (0, 82, .inl bf) := zFr.get F_kr14 (by omega) kh5
  have kh19 : s_kr14.1 (y + 5) = .inl (0, 60, .inl ip) := zFr.get F_kr14 (by omega) kh6
  have kh20 : s_kr14.1 (y + 6) = .inl (1, 400, .inl sg) := zFr.get F_kr14 (by omega) kh7
  have kh21 : s_kr14.1 (y + 11) = .inl (0, 93, .inl td) := zFr.get F_kr14 (by omega) kh8
  have kR22 : zCy y s_kr14 := zCy.fr kR10 F_kr14 (by intro q h1 h2 h3; (try simp only [zIn, zJf] at h3); omega)
  have kR23 : zOa y s_kr14 := zOa.fr kR12 F_kr14 (by intro q h1 h2 h3; (try simp only [zIn, zJf] at h3); omega)
  have kF24 := zFr.tr kF13 F_kr14 (by intro q hq; unfold zMq; omega)
  obtain rfl := e_kr14.symm
  exact zr_ireturn dX10_compareByCoordinates_38 rfl (rfl) (⟨_, rfl, rfl, kF24, ⟨_, _, _, _, _, _, _, _, g0_kr14, ⟨f4, f5, f6, rfl, rfl, f9, f10, f11, f13, f14, f16, f27⟩, kh15, kh16, kh17, kh18, kh19, kh20, kh21, r0_kr14, kR22, r1_kr14, kR23, gr, gS, gK, hm8, gU, hn60, hT, hll, hln⟩⟩)

set_option maxHeartbeats 400000 in
set_option maxRecDepth 100000 in
theorem qX10_compareByCoordinatesX {X : zX} (hX : X.1.stackTraces = false) {σ : zS} {y : Nat} {w tm cd dn : Int32} {K : zDk} {A S : zDk} {m : Nat} {U : Nat → zDk} {n : Nat} {T : Nat → Int32} {ll : Nat} {ln : Nat → Int32} {hs kf ld dt dc : Int32} {p : Int32} {p2 : Int32} (hM : zMo y w tm cd dn K A S m U n T ll ln hs kf ld dt dc σ) (gA : zGd A) (hno : ¬ (¬ p < 0 ∧ p < nI (kC A))) : zMet X mX10_compareByCoordinates yX10_compareByCoordinates 5 0 0 [.ref y, .int p, .int p2] σ (zI (fun y_ s => True ∧ zFr σ s (zMq y) ∧ zMo y w tm 1 0 K A S m U n T ll ln hs kf ld dt dc s)) := by
  refine zMet_of (ls := [some (.ref y), some (.int p), some (.int p2)]) rfl (by decide +kernel) rfl (fun h => by cases h) hX (Nat.le_of_ble_eq_true rfl) rfl ?_
  obtain ⟨F, g, kp, sv, bf, ip, sg, td, h0, hf, h1, h2, h3, h4, h5, h6, h11, hWa, hC, hX9, hOt, gr, gS, gK, hm8, gU, hn60, hT, hll, hln⟩ := id hM
  obtain ⟨f4, f5, f6, f7, f8, f9, f10, f11, f13, f14, f16, f27⟩ := id hf
  have hA := gA.1
  obtain ⟨r0, r1, rc, rp⟩ := id gr
  obtain ⟨hC8, hP8, hW⟩ := id hA
  refine zr_aload_n dX10_compareByCoordinates_0 rfl ?_
  refine zr_aload_n dX10_compareByCoordinates_1 rfl ?_
  refine zr_iload_n dX10_compareByCoordinates_2 rfl ?_
  refine zr_pVi [.ref y] dX10_compareByCoordinates_3 vX10_131 (qX10_isCase hX (p := p) h0 h1 r0 (by omega)) h0 (by decide) (by decide) (by decide) rfl rfl (Nat.le_of_ble_eq_true rfl) (by decide) rfl ?_
  refine zr_if_eq (tgt := 21) dX10_compareByCoordinates_6 (by decide) (fun c_6 => ?_) (fun c_6 => absurd (ite10.mpr hno) c_6)
  refine zr_iconst (v := 1) dX10_compareByCoordinates_21 (by decide) ?_
  refine zr_callVi [] dX10_compareByCoordinates_22 vX10_135 (qX10_fails hX (p := 1) h0) h0 (by decide) (by decide) (by decide) rfl rfl (Nat.le_of_ble_eq_true rfl) (by decide) rfl (fun kr1 s_kr1 h_kr1 => ?_)
  obtain ⟨e_kr1, F_kr1, g0_kr1⟩ := h_kr1
  have kh2 : s_kr1.1 (y + 1) = .inl (0, 82, .inl g) := zFr.get F_kr1 (by omega) h1
  have kh3 : s_kr1.1 (y + 2) = .inl (0, 656, .inl kp) := zFr.get F_kr1 (by omega) h2
  have kh4 : s_kr1.1 (y + 3) = .inl (0, 82, .inl sv) := zFr.get F_kr1 (by omega) h3
  have kh5 : s_kr1.1 (y + 4) = .inl (0, 82, .inl bf) := zFr.get F_kr1 (by omega) h4
  have kh6 : s_kr1.1 (y + 5) = .inl (0, 60, .inl ip) := zFr.get F_kr1 (by omega) h5
  have kh7 : s_kr1.1 (y + 6) = .inl (1, 400, .inl sg) := zFr.get F_kr1 (by omega) h6
  have kh8 : s_kr1.1 (y + 11) = .inl (0, 93, .inl td) := zFr.get F_kr1 (by omega) h11
  have kR9 : zWa y s_kr1 := zWa.fr hWa F_kr1 (by intro q h1 h2 h3; (try simp only [zIn, zJf] at h3); omega)
  have kR10 : zCy y s_kr1 := zCy.fr hC F_kr1 (by intro q h1 h2 h3; (try simp only [zIn, zJf] at h3); omega)
  have kR11 : zXa y s_kr1 := zXa.fr hX9 F_kr1 (by intro q h1 h2 h3; (try simp only [zIn, zJf] at h3); omega)
  have kR12 : zOa y s_kr1 := zOa.fr hOt F_kr1 (by intro q h1 h2 h3; (try simp only [zIn, zJf] at h3); omega)
  have kF13 := zFr.tr zFr.rf (P := zMq y) F_kr1 (by intro q hq; unfold zMq; omega)
  replace e_kr1 := e_kr1.trans (if_neg (by decide) : (_ : Int32) = 1)
  obtain rfl := e_kr1.symm
  refine zr_if_eq (tgt := 32) dX10_compareByCoordinates_25 (by decide) (fun c_25 => absurd c_25 (by decide)) (fun c_25 => ?_)
  refine zr_iconst (v := 0) dX10_compareByCoordinates_28 (by decide) ?_
  refine zr_goto (tgt := 38) dX10_compareByCoordinates_29 (by decide) ?_
  exact zr_ireturn dX10_compareByCoordinates_38 rfl (rfl) (⟨_, rfl, trivial, kF13, ⟨_, _, _, _, _, _, _, _, g0_kr1, ⟨f4, f5, f6, rfl, rfl, f9, f10, f11, f13, f14, f16, f27⟩, kh2, kh3, kh4, kh5, kh6, kh7, kh8, kR9, kR10, kR11, kR12, gr, gS, gK, hm8, gU, hn60, hT, hll, hln⟩⟩)

set_option maxHeartbeats 400000 in
set_option maxRecDepth 100000 in
theorem qX10_compareByCoordinatesX2 {X : zX} (hX : X.1.stackTraces = false) {σ : zS} {y : Nat} {w tm cd dn : Int32} {K : zDk} {A S : zDk} {m : Nat} {U : Nat → zDk} {n : Nat} {T : Nat → Int32} {ll : Nat} {ln : Nat → Int32} {hs kf ld dt dc : Int32} {i : Nat} {p : Int32} (hM : zMo y w tm cd dn K A S m U n T ll ln hs kf ld dt dc σ) (gA : zGd A) (hi : i < kC A) (hno : ¬ (¬ p < 0 ∧ p < nI (kC A))) : zMet X mX10_compareByCoordinates yX10_compareByCoordinates 5 0 0 [.ref y, .int (nI i), .int p] σ (zI (fun y_ s => True ∧ zFr σ s (zMq y) ∧ zMo y w tm 1 0 K A S m U n T ll ln hs kf ld dt dc s)) := by
  refine zMet_of (ls := [some (.ref y), some (.int (nI i)), some (.int p)]) rfl (by decide +kernel) rfl (fun h => by cases h) hX (Nat.le_of_ble_eq_true rfl) rfl ?_
  obtain ⟨F, g, kp, sv, bf, ip, sg, td, h0, hf, h1, h2, h3, h4, h5, h6, h11, hWa, hC, hX9, hOt, gr, gS, gK, hm8, gU, hn60, hT, hll, hln⟩ := id hM
  obtain ⟨f4, f5, f6, f7, f8, f9, f10, f11, f13, f14, f16, f27⟩ := id hf
  have hA := gA.1
  obtain ⟨r0, r1, rc, rp⟩ := id gr
  obtain ⟨hC8, hP8, hW⟩ := id hA
  refine zr_aload_n dX10_compareByCoordinates_0 rfl ?_
  refine zr_aload_n dX10_compareByCoordinates_1 rfl ?_
  refine zr_iload_n dX10_compareByCoordinates_2 rfl ?_
  refine zr_pVi [.ref y] dX10_compareByCoordinates_3 vX10_131 (qX10_isCase hX (p := nI i) h0 h1 r0 (by omega)) h0 (by decide) (by decide) (by decide) rfl rfl (Nat.le_of_ble_eq_true rfl) (by decide) rfl ?_
  refine zr_if_eq (tgt := 21) dX10_compareByCoordinates_6 (by decide) (fun c_6 => absurd c_6 (fun q => ite10.mp q (isin_y hi (by omega)))) (fun c_6 => ?_)
  refine zr_aload_n dX10_compareByCoordinates_9 rfl ?_
  refine zr_iload_n dX10_compareByCoordinates_10 rfl ?_
  refine zr_pVi [.ref y] dX10_compareByCoordinates_11 vX10_131 (qX10_isCase hX (p := p) h0 h1 r0 (by omega)) h0 (by decide) (by decide) (by decide) rfl rfl (Nat.le_of_ble_eq_true rfl) (by decide) rfl ?_
  refine zr_if_eq (tgt := 21) dX10_compareByCoordinates_14 (by decide) (fun c_14 => ?_) (fun c_14 => absurd (ite10.mpr hno) c_14)
  refine zr_iconst (v := 1) dX10_compareByCoordinates_21 (by decide) ?_
  refine zr_callVi [] dX10_compareByCoordinates_22 vX10_135 (qX10_fails hX (p := 1) h0) h0 (by decide) (by decide) (by decide) rfl rfl (Nat.le_of_ble_eq_true rfl) (by decide) rfl (fun kr1 s_kr1 h_kr1 => ?_)
  obtain ⟨e_kr1, F_kr1, g0_kr1⟩ := h_kr1
  have kh2 : s_kr1.1 (y + 1) = .inl (0, 82, .inl g) := zFr.get F_kr1 (by omega) h1
  have kh3 : s_kr1.1 (y + 2) = .inl (0, 656, .inl kp) := zFr.get F_kr1 (by omega) h2
  have kh4 : s_kr1.1 (y + 3) = .inl (0, 82, .inl sv) := zFr.get F_kr1 (by omega) h3
  have kh5 : s_kr1.1 (y + 4) = .inl (0, 82, .inl bf) := zFr.get F_kr1 (by omega) h4
  have kh6 : s_kr1.1 (y + 5) = .inl (0, 60, .inl ip) := zFr.get F_kr1 (by omega) h5
  have kh7 : s_kr1.1 (y + 6) = .inl (1, 400, .inl sg) := zFr.get F_kr1 (by omega) h6
  have kh8 : s_kr1.1 (y + 11) = .inl (0, 93, .inl td) := zFr.get F_kr1 (by omega) h11
  have kR9 : zWa y s_kr1 := zWa.fr hWa F_kr1 (by intro q h1 h2 h3; (try simp only [zIn, zJf] at h3); omega)
  have kR10 : zCy y s_kr1 := zCy.fr hC F_kr1 (by intro q h1 h2 h3; (try simp only [zIn, zJf] at h3); omega)
  have kR11 : zXa y s_kr1 := zXa.fr hX9 F_kr1 (by intro q h1 h2 h3; (try simp only [zIn, zJf] at h3); omega)
  have kR12 : zOa y s_kr1 := zOa.fr hOt F_kr1 (by intro q h1 h2 h3; (try simp only [zIn, zJf] at h3); omega)
  have kF13 := zFr.tr zFr.rf (P := zMq y) F_kr1 (by intro q hq; unfold zMq; omega)
  replace e_kr1 := e_kr1.trans (if_neg (by decide) : (_ : Int32) = 1)
  obtain rfl := e_kr1.symm
  refine zr_if_eq (tgt := 32) dX10_compareByCoordinates_25 (by decide) (fun c_25 => absurd c_25 (by decide)) (fun c_25 => ?_)
  refine zr_iconst (v := 0) dX10_compareByCoordinates_28 (by decide) ?_
  refine zr_goto (tgt := 38) dX10_compareByCoordinates_29 (by decide) ?_
  exact zr_ireturn dX10_compareByCoordinates_38 rfl (rfl) (⟨_, rfl, trivial, kF13, ⟨_, _, _, _, _, _, _, _, g0_kr1, ⟨f4, f5, f6, rfl, rfl, f9, f10, f11, f13, f14, f16, f27⟩, kh2, kh3, kh4, kh5, kh6, kh7, kh8, kR9, kR10, kR11, kR12, gr, gS, gK, hm8, gU, hn60, hT, hll, hln⟩⟩)

theorem zSmb_sym (a b : Nat → Int) : zSmb a b = zSmb b a := by
  rw [Bool.eq_iff_iff, zSmb_iff, zSmb_iff]
  exact ⟨zSm.sym, zSm.sym⟩
theorem zWk.wa2 {y : Nat} {s : zS} (h : zWa y s) : ∃ L, zWk y L s := h
theorem qM_same {X : zX} (hX : X.1.stackTraces = false) {σ : zS} {y : Nat} {F : Nat → Int32} {g : Nat → Int32} {a b n n2 : Nat} {L M : List Int32} (h0 : σ.1 y = zmO y F) (h1 : σ.1 (y + 1) = .inl (0, 82, .inl g)) (hn : g a = nI n) (hn16 : n ≤ 16) (ha : a + 5 ≤ 82) (hL : zP (zdl g a) n = L) (hn2 : g b = nI n2) (hn216 : n2 ≤ 16) (hb : b + 5 ≤ 82) (hM : zP (zdl g b) n2 = M) (hW : zWa y σ) (hX9 : zXa y σ) (hO : zOa y σ) : zMet X mX10_areSame yX10_areSame 3 0 0 [.ref y, .int (nI a), .int (nI b)] σ (zI (fun y_ s => y_ = (if zSmb (zcv z0 L) (zcv z0 M) = true then 1 else 0) ∧ zFr σ s (fun q => q = y ∨ q = y + 7 ∨ q = y + 9 ∨ q = y + 10) ∧ s.1 y = zmO y (upd F 19 (nI n2)) ∧ zWa y s ∧ zXa y s ∧ zOa y s)) := by
  obtain ⟨L0, hL0⟩ := hW
  rw [← hL, ← hM]
  exact qX10_areSame hX h0 h1 hn hn16 ha hn2 hn216 hb hL0 hX9 hO
set_option maxHeartbeats 400000 in
set_option maxRecDepth 100000 in
theorem qX10_areEqualByCoordinates {X : zX} (hX : X.1.stackTraces = false) {σ : zS} {y : Nat} {w tm cd dn : Int32} {K : zDk} {A S : zDk} {m : Nat} {U : Nat → zDk} {n : Nat} {T : Nat → Int32} {ll : Nat} {ln : Nat → Int32} {hs kf ld dt dc : Int32} {i j : Nat} (hM : zMo y w tm cd dn K A S m U n T ll ln hs kf ld dt dc σ) (gA : zGd A) (hi : i < kC A) (hj : j < kC A) : zMet X mX10_areEqualByCoordinates yX10_areEqualByCoordinates 5 0 0 [.ref y, .int (nI i), .int (nI j)] σ (zI (fun y_ s => y_ = (if zSmb (zcw A i) (zcw A j) = true then 1 else 0) ∧ zFr σ s (zMq y) ∧ zMo y w tm 0 0 K A S m U n T ll ln hs kf ld dt dc s)) := by
  refine zMet_of (ls := [some (.ref y), some (.int (nI i)), some (.int (nI j))]) rfl (by decide +kernel) rfl (fun h => by cases h) hX (Nat.le_of_ble_eq_true rfl) rfl ?_
  obtain ⟨F, g, kp, sv, bf, ip, sg, td, h0, hf, h1, h2, h3, h4, h5, h6, h11, hWa, hC, hX9, hOt, gr, gS, gK, hm8, gU, hn60, hT, hll, hln⟩ := id hM
  obtain ⟨f4, f5, f6, f7, f8, f9, f10, f11, f13, f14, f16, f27⟩ := id hf
  have hA := gA.1
  obtain ⟨r0, r1, rc, rp⟩ := id gr
  obtain ⟨hC8, hP8, hW⟩ := id hA
  refine zr_aload_n dX10_areEqualByCoordinates_0 rfl ?_
  refine zr_aload_n dX10_areEqualByCoordinates_1 rfl ?_
  refine zr_iload_n dX10_areEqualByCoordinates_2 rfl ?_
  refine zr_pVi [.ref y] dX10_areEqualByCoordinates_3 vX10_131 (qX10_isCase hX (p := nI i) h0 h1 r0 (by omega)) h0 (by decide) (by decide) (by decide) rfl rfl (Nat.le_of_ble_eq_true rfl) (by decide) rfl ?_
  refine zr_if_eq (tgt := 21) dX10_areEqualByCoordinates_6 (by decide) (fun c_6 => absurd c_6 (fun q => ite10.mp q (isin_y hi (by omega)))) (fun c_6 => ?_)
  refine zr_aload_n dX10_areEqualByCoordinates_9 rfl ?_
  refine zr_iload_n dX10_areEqualByCoordinates_10 rfl ?_
  refine zr_pVi [.ref y] dX10_areEqualByCoordinates_11 vX10_131 (qX10_isCase hX (p := nI j) h0 h1 r0 (by omega)) h0 (by decide) (by decide) (by decide) rfl rfl (Nat.le_of_ble_eq_true rfl) (by decide) rfl ?_
  refine zr_if_eq (tgt := 21) dX10_areEqualByCoordinates_14 (by decide) (fun c_14 => absurd c_14 (fun q => ite10.mp q (isin_y hj (by omega)))) (fun c_14 => ?_)
  refine zr_iconst (v := 0) dX10_areEqualByCoordinates_17 (by decide) ?_
  refine zr_goto (tgt := 22) dX10_areEqualByCoordinates_18 (by decide) ?_
  refine zr_callVi [] dX10_areEqualByCoordinates_22 vX10_135 (qX10_fails hX (p := 0) h0) h0 (by decide) (by decide) (by decide) rfl rfl (Nat.le_of_ble_eq_true rfl) (by decide) rfl (fun kr1 s_kr1 h_kr1 => ?_)
  obtain ⟨e_kr1, F_kr1, g0_kr1⟩ := h_kr1
  have kh2 : s_kr1.1 (y + 1) = .inl (0, 82, .inl g) := zFr.get F_kr1 (by omega) h1
  have kh3 : s_kr1.1 (y + 2) = .inl (0, 656, .inl kp) := zFr.get F_kr1 (by omega) h2
  have kh4 : s_kr1.1 (y + 3) = .inl (0, 82, .inl sv) := zFr.get F_kr1 (by omega) h3
  have kh5 : s_kr1.1 (y + 4) = .inl (0, 82, .inl bf) := zFr.get F_kr1 (by omega) h4
  have kh6 : s_kr1.1 (y + 5) = .inl (0, 60, .inl ip) := zFr.get F_kr1 (by omega) h5
  have kh7 : s_kr1.1 (y + 6) = .inl (1, 400, .inl sg) := zFr.get F_kr1 (by omega) h6
  have kh8 : s_kr1.1 (y + 11) = .inl (0, 93, .inl td) := zFr.get F_kr1 (by omega) h11
  have kR9 : zWa y s_kr1 := zWa.fr hWa F_kr1 (by intro q h1 h2 h3; (try simp only [zIn, zJf] at h3); omega)
  have kR10 : zCy y s_kr1 := zCy.fr hC F_kr1 (by intro q h1 h2 h3; (try simp only [zIn, zJf] at h3); omega)
  have kR11 : zXa y s_kr1 := zXa.fr hX9 F_kr1 (by intro q h1 h2 h3; (try simp only [zIn, zJf] at h3); omega)
  have kR12 : zOa y s_kr1 := zOa.fr hOt F_kr1 (by intro q h1 h2 h3; (try simp only [zIn, zJf] at h3); omega)
  have kF13 := zFr.tr zFr.rf (P := zMq y) F_kr1 (by intro q hq; unfold zMq; omega)
  replace e_kr1 := e_kr1.trans (if_pos (by decide) : (_ : Int32) = 0)
  obtain rfl := e_kr1.symm
  refine zr_if_ne (tgt := 47) dX10_areEqualByCoordinates_25 (by decide) (fun c_25 => absurd (by decide) c_25) (fun c_25 => ?_)
  refine zr_aload_n dX10_areEqualByCoordinates_28 rfl ?_
  refine zr_iload_n dX10_areEqualByCoordinates_29 rfl ?_
  refine zr_pSi [.ref y] dX10_areEqualByCoordinates_30 vX10_138 (qX10_caseAt hX (i := i)) (by decide) (by decide) (by decide) rfl rfl (Nat.le_of_ble_eq_true rfl) rfl ?_
  refine zr_iload_n dX10_areEqualByCoordinates_33 rfl ?_
  refine zr_pSi [.int (nI (2 + 5 * i)), .ref y] dX10_areEqualByCoordinates_34 vX10_138 (qX10_caseAt hX (i := j)) (by decide) (by decide) (by decide) rfl rfl (Nat.le_of_ble_eq_true rfl) rfl ?_
  refine zr_callVi [] dX10_areEqualByCoordinates_37 vX10_194 (qM_same hX g0_kr1 kh2 (rc i (by omega)).1 (hW i (by omega)).1 (by omega) (gr.wd (by omega)) (rc j (by omega)).1 (hW j (by omega)).1 (by omega) (gr.wd (by omega)) kR9 kR11 kR12) g0_kr1 (by decide) (by decide) (by decide) rfl rfl (Nat.le_of_ble_eq_true rfl) (by decide) rfl (fun kr14 s_kr14 h_kr14 => ?_)
  obtain ⟨e_kr14, F_kr14, g0_kr14, r0_kr14, r1_kr14, r2_kr14⟩ := h_kr14
  have kh15 : s_kr14.1 (y + 1) = .inl (0, 82, .inl g) := zFr.get F_kr14 (by omega) kh2
  have kh16 : s_kr14.1 (y + 2) = .inl (0, 656, .inl kp) := zFr.get F_kr14 (by omega) kh3
  have kh17 : s_kr14.1 (y + 3) = .inl (0, 82, .inl sv) := zFr.get F_kr14 (by omega) kh4
  have kh18 : s_kr14.1 (y + 4) = .inl (0, 82, .inl bf) := zFr.get F_kr14 (by omega) kh5
  have kh19 : s_kr14.1 (y + 5) = .inl (0, 60, .inl ip) := zFr.get F_kr14 (by omega) kh6
  have kh20 : s_kr14.1 (y + 6) = .inl (1, 400, .inl sg) := zFr.get F_kr14 (by omega) kh7
  have kh21 : s_kr14.1 (y + 11) = .inl (0, 93, .inl td) := zFr.get F_kr14 (by omega) kh8
  have kR22 : zCy y s_kr14 := zCy.fr kR10 F_kr14 (by intro q h1 h2 h3; (try simp only [zIn, zJf] at h3); omega)
  have kF23 := zFr.tr kF13 F_kr14 (by intro q hq; unfold zMq; omega)
  obtain rfl := e_kr14.symm
  refine zr_if_eq (tgt := 47) dX10_areEqualByCoordinates_40 (by decide) (fun c_40 => ?_) (fun c_40 => ?_)
  · refine zr_iconst (v := 0) dX10_areEqualByCoordinates_47 (by decide) ?_
    exact zr_ireturn dX10_areEqualByCoordinates_48 rfl (rfl) (⟨_, rfl, (if_neg (ite10.mp c_40)).symm, kF23, ⟨_, _, _, _, _, _, _, _, g0_kr14, ⟨f4, f5, f6, rfl, rfl, f9, f10, f11, f13, f14, f16, f27⟩, kh15, kh16, kh17, kh18, kh19, kh20, kh21, r0_kr14, kR22, r1_kr14, r2_kr14, gr, gS, gK, hm8, gU, hn60, hT, hll, hln⟩⟩)
  · refine zr_iconst (v := 1) dX10_areEqualByCoordinates_43 (by decide) ?_
    refine zr_goto (tgt := 48) dX10_areEqualByCoordinates_44 (by decide) ?_
    exact zr_ireturn dX10_areEqualByCoordinates_48 rfl (rfl) (⟨_, rfl, (if_pos (Classical.not_not.mp (fun q => c_40 (ite10.mpr q)))).symm, kF23, ⟨_, _, _, _, _, _, _, _, g0_kr14, ⟨f4, f5, f6, rfl, rfl, f9, f10, f11, f13, f14, f16, f27⟩, kh15, kh16, kh17, kh18, kh19, kh20, kh21, r0_kr14, kR22, r1_kr14, r2_kr14, gr, gS, gK, hm8, gU, hn60, hT, hll, hln⟩⟩)

set_option maxHeartbeats 400000 in
set_option maxRecDepth 100000 in
theorem qX10_areEqualByCoordinatesX {X : zX} (hX : X.1.stackTraces = false) {σ : zS} {y : Nat} {w tm cd dn : Int32} {K : zDk} {A S : zDk} {m : Nat} {U : Nat → zDk} {n : Nat} {T : Nat → Int32} {ll : Nat} {ln : Nat → Int32} {hs kf ld dt dc : Int32} {p : Int32} {p2 : Int32} (hM : zMo y w tm cd dn K A S m U n T ll ln hs kf ld dt dc σ) (gA : zGd A) (hno : ¬ (¬ p < 0 ∧ p < nI (kC A))) : zMet X mX10_areEqualByCoordinates yX10_areEqualByCoordinates 5 0 0 [.ref y, .int p, .int p2] σ (zI (fun y_ s => True ∧ zFr σ s (zMq y) ∧ zMo y w tm 1 0 K A S m U n T ll ln hs kf ld dt dc s)) := by
  refine zMet_of (ls := [some (.ref y), some (.int p), some (.int p2)]) rfl (by decide +kernel) rfl (fun h => by cases h) hX (Nat.le_of_ble_eq_true rfl) rfl ?_
  obtain ⟨F, g, kp, sv, bf, ip, sg, td, h0, hf, h1, h2, h3, h4, h5, h6, h11, hWa, hC, hX9, hOt, gr, gS, gK, hm8, gU, hn60, hT, hll, hln⟩ := id hM
  obtain ⟨f4, f5, f6, f7, f8, f9, f10, f11, f13, f14, f16, f27⟩ := id hf
  have hA := gA.1
  obtain ⟨r0, r1, rc, rp⟩ := id gr
  obtain ⟨hC8, hP8, hW⟩ := id hA
  refine zr_aload_n dX10_areEqualByCoordinates_0 rfl ?_
  refine zr_aload_n dX10_areEqualByCoordinates_1 rfl ?_
  refine zr_iload_n dX10_areEqualByCoordinates_2 rfl ?_
  refine zr_pVi [.ref y] dX10_areEqualByCoordinates_3 vX10_131 (qX10_isCase hX (p := p) h0 h1 r0 (by omega)) h0 (by decide) (by decide) (by decide) rfl rfl (Nat.le_of_ble_eq_true rfl) (by decide) rfl ?_
  refine zr_if_eq (tgt := 21) dX10_areEqualByCoordinates_6 (by decide) (fun c_6 => ?_) (fun c_6 => absurd (ite10.mpr hno) c_6)
  refine zr_iconst (v := 1) dX10_areEqualByCoordinates_21 (by decide) ?_
  refine zr_callVi [] dX10_areEqualByCoordinates_22 vX10_135 (qX10_fails hX (p := 1) h0) h0 (by decide) (by decide) (by decide) rfl rfl (Nat.le_of_ble_eq_true rfl) (by decide) rfl (fun kr1 s_kr1 h_kr1 => ?_)
  obtain ⟨e_kr1, F_kr1, g0_kr1⟩ := h_kr1
  have kh2 : s_kr1.1 (y + 1) = .inl (0, 82, .inl g) := zFr.get F_kr1 (by omega) h1
  have kh3 : s_kr1.1 (y + 2) = .inl (0, 656, .inl kp) := zFr.get F_kr1 (by omega) h2
  have kh4 : s_kr1.1 (y + 3) = .inl (0, 82, .inl sv) := zFr.get F_kr1 (by omega) h3
  have kh5 : s_kr1.1 (y + 4) = .inl (0, 82, .inl bf) := zFr.get F_kr1 (by omega) h4
  have kh6 : s_kr1.1 (y + 5) = .inl (0, 60, .inl ip) := zFr.get F_kr1 (by omega) h5
  have kh7 : s_kr1.1 (y + 6) = .inl (1, 400, .inl sg) := zFr.get F_kr1 (by omega) h6
  have kh8 : s_kr1.1 (y + 11) = .inl (0, 93, .inl td) := zFr.get F_kr1 (by omega) h11
  have kR9 : zWa y s_kr1 := zWa.fr hWa F_kr1 (by intro q h1 h2 h3; (try simp only [zIn, zJf] at h3); omega)
  have kR10 : zCy y s_kr1 := zCy.fr hC F_kr1 (by intro q h1 h2 h3; (try simp only [zIn, zJf] at h3); omega)
  have kR11 : zXa y s_kr1 := zXa.fr hX9 F_kr1 (by intro q h1 h2 h3; (try simp only [zIn, zJf] at h3); omega)
  have kR12 : zOa y s_kr1 := zOa.fr hOt F_kr1 (by intro q h1 h2 h3; (try simp only [zIn, zJf] at h3); omega)
  have kF13 := zFr.tr zFr.rf (P := zMq y) F_kr1 (by intro q hq; unfold zMq; omega)
  replace e_kr1 := e_kr1.trans (if_neg (by decide) : (_ : Int32) = 1)
  obtain rfl := e_kr1.symm
  refine zr_if_ne (tgt := 47) dX10_areEqualByCoordinates_25 (by decide) (fun c_25 => ?_) (fun c_25 => absurd c_25 (by decide))
  refine zr_iconst (v := 0) dX10_areEqualByCoordinates_47 (by decide) ?_
  exact zr_ireturn dX10_areEqualByCoordinates_48 rfl (rfl) (⟨_, rfl, trivial, kF13, ⟨_, _, _, _, _, _, _, _, g0_kr1, ⟨f4, f5, f6, rfl, rfl, f9, f10, f11, f13, f14, f16, f27⟩, kh2, kh3, kh4, kh5, kh6, kh7, kh8, kR9, kR10, kR11, kR12, gr, gS, gK, hm8, gU, hn60, hT, hll, hln⟩⟩)

set_option maxHeartbeats 400000 in
set_option maxRecDepth 100000 in
theorem qX10_areEqualByCoordinatesX2 {X : zX} (hX : X.1.stackTraces = false) {σ : zS} {y : Nat} {w tm cd dn : Int32} {K : zDk} {A S : zDk} {m : Nat} {U : Nat → zDk} {n : Nat} {T : Nat → Int32} {ll : Nat} {ln : Nat → Int32} {hs kf ld dt dc : Int32} {i : Nat} {p : Int32} (hM : zMo y w tm cd dn K A S m U n T ll ln hs kf ld dt dc σ) (gA : zGd A) (hi : i < kC A) (hno : ¬ (¬ p < 0 ∧ p < nI (kC A))) : zMet X mX10_areEqualByCoordinates yX10_areEqualByCoordinates 5 0 0 [.ref y, .int (nI i), .int p] σ (zI (fun y_ s => True ∧ zFr σ s (zMq y) ∧ zMo y w tm 1 0 K A S m U n T ll ln hs kf ld dt dc s)) := by
  refine zMet_of (ls := [some (.ref y), some (.int (nI i)), some (.int p)]) rfl (by decide +kernel) rfl (fun h => by cases h) hX (Nat.le_of_ble_eq_true rfl) rfl ?_
  obtain ⟨F, g, kp, sv, bf, ip, sg, td, h0, hf, h1, h2, h3, h4, h5, h6, h11, hWa, hC, hX9, hOt, gr, gS, gK, hm8, gU, hn60, hT, hll, hln⟩ := id hM
  obtain ⟨f4, f5, f6, f7, f8, f9, f10, f11, f13, f14, f16, f27⟩ := id hf
  have hA := gA.1
  obtain ⟨r0, r1, rc, rp⟩ := id gr
  obtain ⟨hC8, hP8, hW⟩ := id hA
  refine zr_aload_n dX10_areEqualByCoordinates_0 rfl ?_
  refine zr_aload_n dX10_areEqualByCoordinates_1 rfl ?_
  refine zr_iload_n dX10_areEqualByCoordinates_2 rfl ?_
  refine zr_pVi [.ref y] dX10_areEqualByCoordinates_3 vX10_131 (qX10_isCase hX (p := nI i) h0 h1 r0 (by omega)) h0 (by decide) (by decide) (by decide) rfl rfl (Nat.le_of_ble_eq_true rfl) (by decide) rfl ?_
  refine zr_if_eq (tgt := 21) dX10_areEqualByCoordinates_6 (by decide) (fun c_6 => absurd c_6 (fun q => ite10.mp q (isin_y hi (by omega)))) (fun c_6 => ?_)
  refine zr_aload_n dX10_areEqualByCoordinates_9 rfl ?_
  refine zr_iload_n dX10_areEqualByCoordinates_10 rfl ?_
  refine zr_pVi [.ref y] dX10_areEqualByCoordinates_11 vX10_131 (qX10_isCase hX (p := p) h0 h1 r0 (by omega)) h0 (by decide) (by decide) (by decide) rfl rfl (Nat.le_of_ble_eq_true rfl) (by decide) rfl ?_
  refine zr_if_eq (tgt := 21) dX10_areEqualByCoordinates_14 (by decide) (fun c_14 => ?_) (fun c_14 => absurd (ite10.mpr hno) c_14)
  refine zr_iconst (v := 1) dX10_areEqualByCoordinates_21 (by decide) ?_
  refine zr_callVi [] dX10_areEqualByCoordinates_22 vX10_135 (qX10_fails hX (p := 1) h0) h0 (by decide) (by decide) (by decide) rfl rfl (Nat.le_of_ble_eq_true rfl) (by decide) rfl (fun kr1 s_kr1 h_kr1 => ?_)
  obtain ⟨e_kr1, F_kr1, g0_kr1⟩ := h_kr1
  have kh2 : s_kr1.1 (y + 1) = .inl (0, 82, .inl g) := zFr.get F_kr1 (by omega) h1
  have kh3 : s_kr1.1 (y + 2) = .inl (0, 656, .inl kp) := zFr.get F_kr1 (by omega) h2
  have kh4 : s_kr1.1 (y + 3) = .inl (0, 82, .inl sv) := zFr.get F_kr1 (by omega) h3
  have kh5 : s_kr1.1 (y + 4) = .inl (0, 82, .inl bf) := zFr.get F_kr1 (by omega) h4
  have kh6 : s_kr1.1 (y + 5) = .inl (0, 60, .inl ip) := zFr.get F_kr1 (by omega) h5
  have kh7 : s_kr1.1 (y + 6) = .inl (1, 400, .inl sg) := zFr.get F_kr1 (by omega) h6
  have kh8 : s_kr1.1 (y + 11) = .inl (0, 93, .inl td) := zFr.get F_kr1 (by omega) h11
  have kR9 : zWa y s_kr1 := zWa.fr hWa F_kr1 (by intro q h1 h2 h3; (try simp only [zIn, zJf] at h3); omega)
  have kR10 : zCy y s_kr1 := zCy.fr hC F_kr1 (by intro q h1 h2 h3; (try simp only [zIn, zJf] at h3); omega)
  have kR11 : zXa y s_kr1 := zXa.fr hX9 F_kr1 (by intro q h1 h2 h3; (try simp only [zIn, zJf] at h3); omega)
  have kR12 : zOa y s_kr1 := zOa.fr hOt F_kr1 (by intro q h1 h2 h3; (try simp only [zIn, zJf] at h3); omega)
  have kF13 := zFr.tr zFr.rf (P := zMq y) F_kr1 (by intro q hq; unfold zMq; omega)
  replace e_kr1 := e_kr1.trans (if_neg (by decide) : (_ : Int32) = 1)
  obtain rfl := e_kr1.symm
  refine zr_if_ne (tgt := 47) dX10_areEqualByCoordinates_25 (by decide) (fun c_25 => ?_) (fun c_25 => absurd c_25 (by decide))
  refine zr_iconst (v := 0) dX10_areEqualByCoordinates_47 (by decide) ?_
  exact zr_ireturn dX10_areEqualByCoordinates_48 rfl (rfl) (⟨_, rfl, trivial, kF13, ⟨_, _, _, _, _, _, _, _, g0_kr1, ⟨f4, f5, f6, rfl, rfl, f9, f10, f11, f13, f14, f16, f27⟩, kh2, kh3, kh4, kh5, kh6, kh7, kh8, kR9, kR10, kR11, kR12, gr, gS, gK, hm8, gU, hn60, hT, hll, hln⟩⟩)

theorem zvd_le (A : zDk) (i : Nat) : zvd A i ≤ 0 ↔ kR A i = -1 := by
  rw [← zvd0]
  rcases zvd_3 A i with e | e | e <;> rw [e] <;> decide
set_option maxHeartbeats 400000 in
set_option maxRecDepth 100000 in
theorem qX10_isDecided {X : zX} (hX : X.1.stackTraces = false) {σ : zS} {y : Nat} {w tm cd dn : Int32} {K : zDk} {A S : zDk} {m : Nat} {U : Nat → zDk} {n : Nat} {T : Nat → Int32} {ll : Nat} {ln : Nat → Int32} {hs kf ld dt dc : Int32} {i : Nat} (hM : zMo y w tm cd dn K A S m U n T ll ln hs kf ld dt dc σ) (gA : zGd A) (hi : i < kC A) : zMet X mX10_isDecided yX10_isDecided 3 0 0 [.ref y, .int (nI i)] σ (zI (fun y_ s => y_ = (if kR A i = -1 then 0 else 1) ∧ zFr σ s (zMq y) ∧ zMo y w tm 0 0 K A S m U n T ll ln hs kf ld dt dc s)) := by
  refine zMet_of (ls := [some (.ref y), some (.int (nI i))]) rfl (by decide +kernel) rfl (fun h => by cases h) hX (Nat.le_of_ble_eq_true rfl) rfl ?_
  obtain ⟨F, g, kp, sv, bf, ip, sg, td, h0, hf, h1, h2, h3, h4, h5, h6, h11, hWa, hC, hX9, hOt, gr, gS, gK, hm8, gU, hn60, hT, hll, hln⟩ := id hM
  obtain ⟨f4, f5, f6, f7, f8, f9, f10, f11, f13, f14, f16, f27⟩ := id hf
  have hA := gA.1
  obtain ⟨r0, r1, rc, rp⟩ := id gr
  obtain ⟨hC8, hP8, hW⟩ := id hA
  refine zr_aload_n dX10_isDecided_0 rfl ?_
  refine zr_iload_n dX10_isDecided_1 rfl ?_
  refine zr_callVi [] dX10_isDecided_2 vX10_155 (qX10_isNone hX (i := i) h0 h1 r0 (by omega) hi) h0 (by decide) (by decide) (by decide) rfl rfl (Nat.le_of_ble_eq_true rfl) (by decide) rfl (fun kr1 s_kr1 h_kr1 => ?_)
  obtain ⟨e_kr1, F_kr1, g0_kr1⟩ := h_kr1
  have kh2 : s_kr1.1 (y + 1) = .inl (0, 82, .inl g) := zFr.get F_kr1 (by omega) h1
  have kh3 : s_kr1.1 (y + 2) = .inl (0, 656, .inl kp) := zFr.get F_kr1 (by omega) h2
  have kh4 : s_kr1.1 (y + 3) = .inl (0, 82, .inl sv) := zFr.get F_kr1 (by omega) h3
  have kh5 : s_kr1.1 (y + 4) = .inl (0, 82, .inl bf) := zFr.get F_kr1 (by omega) h4
  have kh6 : s_kr1.1 (y + 5) = .inl (0, 60, .inl ip) := zFr.get F_kr1 (by omega) h5
  have kh7 : s_kr1.1 (y + 6) = .inl (1, 400, .inl sg) := zFr.get F_kr1 (by omega) h6
  have kh8 : s_kr1.1 (y + 11) = .inl (0, 93, .inl td) := zFr.get F_kr1 (by omega) h11
  have kR9 : zWa y s_kr1 := zWa.fr hWa F_kr1 (by intro q h1 h2 h3; (try simp only [zIn, zJf] at h3); omega)
  have kR10 : zCy y s_kr1 := zCy.fr hC F_kr1 (by intro q h1 h2 h3; (try simp only [zIn, zJf] at h3); omega)
  have kR11 : zXa y s_kr1 := zXa.fr hX9 F_kr1 (by intro q h1 h2 h3; (try simp only [zIn, zJf] at h3); omega)
  have kR12 : zOa y s_kr1 := zOa.fr hOt F_kr1 (by intro q h1 h2 h3; (try simp only [zIn, zJf] at h3); omega)
  have kF13 := zFr.tr zFr.rf (P := zMq y) F_kr1 (by intro q hq; unfold zMq; omega)
  obtain rfl := e_kr1.symm
  refine zr_if_ne (tgt := 21) dX10_isDecided_5 (by decide) (fun c_5 => absurd (by decide) c_5) (fun c_5 => ?_)
  refine zr_aload_n dX10_isDecided_8 rfl ?_
  refine zr_iload_n dX10_isDecided_9 rfl ?_
  refine zr_iconst (v := 1) dX10_isDecided_10 (by decide) ?_
  refine zr_pVi [] dX10_isDecided_11 vX10_149 (qX10_of hX (i := i) (k := 1) g0_kr1 kh2 (by omega)) g0_kr1 (by decide) (by decide) (by decide) rfl rfl (Nat.le_of_ble_eq_true rfl) (by decide) rfl ?_
  refine zr_eqi (x' := (zvd A i)) ((rc i hi).2.1) ?_
  refine zr_if_le (tgt := 21) dX10_isDecided_14 (by decide) (fun c_14 => ?_) (fun c_14 => ?_)
  · refine zr_iconst (v := 0) dX10_isDecided_21 (by decide) ?_
    exact zr_ireturn dX10_isDecided_22 rfl (rfl) (⟨_, rfl, by first | rw [if_pos ((zvd_le A i).mp c_14)] | rw [if_neg (fun q => c_14 ((zvd_le A i).mpr q))], kF13, ⟨_, _, _, _, _, _, _, _, g0_kr1, ⟨f4, f5, f6, rfl, rfl, f9, f10, f11, f13, f14, f16, f27⟩, kh2, kh3, kh4, kh5, kh6, kh7, kh8, kR9, kR10, kR11, kR12, gr, gS, gK, hm8, gU, hn60, hT, hll, hln⟩⟩)
  · refine zr_iconst (v := 1) dX10_isDecided_17 (by decide) ?_
    refine zr_goto (tgt := 22) dX10_isDecided_18 (by decide) ?_
    exact zr_ireturn dX10_isDecided_22 rfl (rfl) (⟨_, rfl, by first | rw [if_pos ((zvd_le A i).mp c_14)] | rw [if_neg (fun q => c_14 ((zvd_le A i).mpr q))], kF13, ⟨_, _, _, _, _, _, _, _, g0_kr1, ⟨f4, f5, f6, rfl, rfl, f9, f10, f11, f13, f14, f16, f27⟩, kh2, kh3, kh4, kh5, kh6, kh7, kh8, kR9, kR10, kR11, kR12, gr, gS, gK, hm8, gU, hn60, hT, hll, hln⟩⟩)

set_option maxHeartbeats 400000 in
set_option maxRecDepth 100000 in
theorem qX10_isDecidedX {X : zX} (hX : X.1.stackTraces = false) {σ : zS} {y : Nat} {w tm cd dn : Int32} {K : zDk} {A S : zDk} {m : Nat} {U : Nat → zDk} {n : Nat} {T : Nat → Int32} {ll : Nat} {ln : Nat → Int32} {hs kf ld dt dc : Int32} {p : Int32} (hM : zMo y w tm cd dn K A S m U n T ll ln hs kf ld dt dc σ) (gA : zGd A) (hno : ¬ (¬ p < 0 ∧ p < nI (kC A))) : zMet X mX10_isDecided yX10_isDecided 3 0 0 [.ref y, .int p] σ (zI (fun y_ s => True ∧ zFr σ s (zMq y) ∧ zMo y w tm 1 0 K A S m U n T ll ln hs kf ld dt dc s)) := by
  refine zMet_of (ls := [some (.ref y), some (.int p)]) rfl (by decide +kernel) rfl (fun h => by cases h) hX (Nat.le_of_ble_eq_true rfl) rfl ?_
  obtain ⟨F, g, kp, sv, bf, ip, sg, td, h0, hf, h1, h2, h3, h4, h5, h6, h11, hWa, hC, hX9, hOt, gr, gS, gK, hm8, gU, hn60, hT, hll, hln⟩ := id hM
  obtain ⟨f4, f5, f6, f7, f8, f9, f10, f11, f13, f14, f16, f27⟩ := id hf
  have hA := gA.1
  obtain ⟨r0, r1, rc, rp⟩ := id gr
  obtain ⟨hC8, hP8, hW⟩ := id hA
  refine zr_aload_n dX10_isDecided_0 rfl ?_
  refine zr_iload_n dX10_isDecided_1 rfl ?_
  refine zr_callVi [] dX10_isDecided_2 vX10_155 (qX10_isNoneX hX h0 h1 r0 (by omega) hno) h0 (by decide) (by decide) (by decide) rfl rfl (Nat.le_of_ble_eq_true rfl) (by decide) rfl (fun kr1 s_kr1 h_kr1 => ?_)
  obtain ⟨e_kr1, F_kr1, g0_kr1⟩ := h_kr1
  have kh2 : s_kr1.1 (y + 1) = .inl (0, 82, .inl g) := zFr.get F_kr1 (by omega) h1
  have kh3 : s_kr1.1 (y + 2) = .inl (0, 656, .inl kp) := zFr.get F_kr1 (by omega) h2
  have kh4 : s_kr1.1 (y + 3) = .inl (0, 82, .inl sv) := zFr.get F_kr1 (by omega) h3
  have kh5 : s_kr1.1 (y + 4) = .inl (0, 82, .inl bf) := zFr.get F_kr1 (by omega) h4
  have kh6 : s_kr1.1 (y + 5) = .inl (0, 60, .inl ip) := zFr.get F_kr1 (by omega) h5
  have kh7 : s_kr1.1 (y + 6) = .inl (1, 400, .inl sg) := zFr.get F_kr1 (by omega) h6
  have kh8 : s_kr1.1 (y + 11) = .inl (0, 93, .inl td) := zFr.get F_kr1 (by omega) h11
  have kR9 : zWa y s_kr1 := zWa.fr hWa F_kr1 (by intro q h1 h2 h3; (try simp only [zIn, zJf] at h3); omega)
  have kR10 : zCy y s_kr1 := zCy.fr hC F_kr1 (by intro q h1 h2 h3; (try simp only [zIn, zJf] at h3); omega)
  have kR11 : zXa y s_kr1 := zXa.fr hX9 F_kr1 (by intro q h1 h2 h3; (try simp only [zIn, zJf] at h3); omega)
  have kR12 : zOa y s_kr1 := zOa.fr hOt F_kr1 (by intro q h1 h2 h3; (try simp only [zIn, zJf] at h3); omega)
  have kF13 := zFr.tr zFr.rf (P := zMq y) F_kr1 (by intro q hq; unfold zMq; omega)
  obtain rfl := e_kr1.symm
  refine zr_if_ne (tgt := 21) dX10_isDecided_5 (by decide) (fun c_5 => ?_) (fun c_5 => absurd c_5 (by decide))
  refine zr_iconst (v := 0) dX10_isDecided_21 (by decide) ?_
  exact zr_ireturn dX10_isDecided_22 rfl (rfl) (⟨_, rfl, trivial, kF13, ⟨_, _, _, _, _, _, _, _, g0_kr1, ⟨f4, f5, f6, rfl, rfl, f9, f10, f11, f13, f14, f16, f27⟩, kh2, kh3, kh4, kh5, kh6, kh7, kh8, kR9, kR10, kR11, kR12, gr, gS, gK, hm8, gU, hn60, hT, hll, hln⟩⟩)

theorem zvt01 (A : zDk) (i : Nat) : zvt A i = 0 ∨ zvt A i = 1 := by
  unfold zvt
  split
  · exact Or.inl rfl
  · split
    · exact Or.inl rfl
    · exact Or.inr rfl
set_option maxHeartbeats 400000 in
set_option maxRecDepth 100000 in
theorem qX10_isTangled {X : zX} (hX : X.1.stackTraces = false) {σ : zS} {y : Nat} {w tm cd dn : Int32} {K : zDk} {A S : zDk} {m : Nat} {U : Nat → zDk} {n : Nat} {T : Nat → Int32} {ll : Nat} {ln : Nat → Int32} {hs kf ld dt dc : Int32} {i : Nat} (hM : zMo y w tm cd dn K A S m U n T ll ln hs kf ld dt dc σ) (gA : zGd A) (hi : i < kC A) : zMet X mX10_isTangled yX10_isTangled 3 0 0 [.ref y, .int (nI i)] σ (zI (fun y_ s => y_ = zvt A i ∧ zFr σ s (zMq y) ∧ zMo y w tm 0 0 K A S m U n T ll ln hs kf ld dt dc s)) := by
  refine zMet_of (ls := [some (.ref y), some (.int (nI i))]) rfl (by decide +kernel) rfl (fun h => by cases h) hX (Nat.le_of_ble_eq_true rfl) rfl ?_
  obtain ⟨F, g, kp, sv, bf, ip, sg, td, h0, hf, h1, h2, h3, h4, h5, h6, h11, hWa, hC, hX9, hOt, gr, gS, gK, hm8, gU, hn60, hT, hll, hln⟩ := id hM
  obtain ⟨f4, f5, f6, f7, f8, f9, f10, f11, f13, f14, f16, f27⟩ := id hf
  have hA := gA.1
  obtain ⟨r0, r1, rc, rp⟩ := id gr
  obtain ⟨hC8, hP8, hW⟩ := id hA
  refine zr_aload_n dX10_isTangled_0 rfl ?_
  refine zr_iload_n dX10_isTangled_1 rfl ?_
  refine zr_callVi [] dX10_isTangled_2 vX10_155 (qX10_isNone hX (i := i) h0 h1 r0 (by omega) hi) h0 (by decide) (by decide) (by decide) rfl rfl (Nat.le_of_ble_eq_true rfl) (by decide) rfl (fun kr1 s_kr1 h_kr1 => ?_)
  obtain ⟨e_kr1, F_kr1, g0_kr1⟩ := h_kr1
  have kh2 : s_kr1.1 (y + 1) = .inl (0, 82, .inl g) := zFr.get F_kr1 (by omega) h1
  have kh3 : s_kr1.1 (y + 2) = .inl (0, 656, .inl kp) := zFr.get F_kr1 (by omega) h2
  have kh4 : s_kr1.1 (y + 3) = .inl (0, 82, .inl sv) := zFr.get F_kr1 (by omega) h3
  have kh5 : s_kr1.1 (y + 4) = .inl (0, 82, .inl bf) := zFr.get F_kr1 (by omega) h4
  have kh6 : s_kr1.1 (y + 5) = .inl (0, 60, .inl ip) := zFr.get F_kr1 (by omega) h5
  have kh7 : s_kr1.1 (y + 6) = .inl (1, 400, .inl sg) := zFr.get F_kr1 (by omega) h6
  have kh8 : s_kr1.1 (y + 11) = .inl (0, 93, .inl td) := zFr.get F_kr1 (by omega) h11
  have kR9 : zWa y s_kr1 := zWa.fr hWa F_kr1 (by intro q h1 h2 h3; (try simp only [zIn, zJf] at h3); omega)
  have kR10 : zCy y s_kr1 := zCy.fr hC F_kr1 (by intro q h1 h2 h3; (try simp only [zIn, zJf] at h3); omega)
  have kR11 : zXa y s_kr1 := zXa.fr hX9 F_kr1 (by intro q h1 h2 h3; (try simp only [zIn, zJf] at h3); omega)
  have kR12 : zOa y s_kr1 := zOa.fr hOt F_kr1 (by intro q h1 h2 h3; (try simp only [zIn, zJf] at h3); omega)
  have kF13 := zFr.tr zFr.rf (P := zMq y) F_kr1 (by intro q hq; unfold zMq; omega)
  obtain rfl := e_kr1.symm
  refine zr_if_ne (tgt := 22) dX10_isTangled_5 (by decide) (fun c_5 => absurd (by decide) c_5) (fun c_5 => ?_)
  refine zr_aload_n dX10_isTangled_8 rfl ?_
  refine zr_iload_n dX10_isTangled_9 rfl ?_
  refine zr_iconst (v := 1) dX10_isTangled_10 (by decide) ?_
  refine zr_pVi [] dX10_isTangled_11 vX10_149 (qX10_of hX (i := i) (k := 1) g0_kr1 kh2 (by omega)) g0_kr1 (by decide) (by decide) (by decide) rfl rfl (Nat.le_of_ble_eq_true rfl) (by decide) rfl ?_
  refine zr_eqi (x' := (zvd A i)) ((rc i hi).2.1) ?_
  refine zr_iconst (v := 1) dX10_isTangled_14 (by decide) ?_
  refine zr_icmp_ne (tgt := 22) dX10_isTangled_15 (by decide) (fun c_15 => ?_) (fun c_15 => ?_)
  · refine zr_iconst (v := 0) dX10_isTangled_22 (by decide) ?_
    exact zr_ireturn dX10_isTangled_23 rfl (rfl) (⟨_, rfl, ((zvt01 A i).resolve_right (fun q => c_15 ((zvd1 A i).mpr (by rw [q]; decide)))).symm, kF13, ⟨_, _, _, _, _, _, _, _, g0_kr1, ⟨f4, f5, f6, rfl, rfl, f9, f10, f11, f13, f14, f16, f27⟩, kh2, kh3, kh4, kh5, kh6, kh7, kh8, kR9, kR10, kR11, kR12, gr, gS, gK, hm8, gU, hn60, hT, hll, hln⟩⟩)
  · refine zr_iconst (v := 1) dX10_isTangled_18 (by decide) ?_
    refine zr_goto (tgt := 23) dX10_isTangled_19 (by decide) ?_
    exact zr_ireturn dX10_isTangled_23 rfl (rfl) (⟨_, rfl, ((zvt01 A i).resolve_left ((zvd1 A i).mp c_15)).symm, kF13, ⟨_, _, _, _, _, _, _, _, g0_kr1, ⟨f4, f5, f6, rfl, rfl, f9, f10, f11, f13, f14, f16, f27⟩, kh2, kh3, kh4, kh5, kh6, kh7, kh8, kR9, kR10, kR11, kR12, gr, gS, gK, hm8, gU, hn60, hT, hll, hln⟩⟩)

set_option maxHeartbeats 400000 in
set_option maxRecDepth 100000 in
theorem qX10_isTangledX {X : zX} (hX : X.1.stackTraces = false) {σ : zS} {y : Nat} {w tm cd dn : Int32} {K : zDk} {A S : zDk} {m : Nat} {U : Nat → zDk} {n : Nat} {T : Nat → Int32} {ll : Nat} {ln : Nat → Int32} {hs kf ld dt dc : Int32} {p : Int32} (hM : zMo y w tm cd dn K A S m U n T ll ln hs kf ld dt dc σ) (gA : zGd A) (hno : ¬ (¬ p < 0 ∧ p < nI (kC A))) : zMet X mX10_isTangled yX10_isTangled 3 0 0 [.ref y, .int p] σ (zI (fun y_ s => True ∧ zFr σ s (zMq y) ∧ zMo y w tm 1 0 K A S m U n T ll ln hs kf ld dt dc s)) := by
  refine zMet_of (ls := [some (.ref y), some (.int p)]) rfl (by decide +kernel) rfl (fun h => by cases h) hX (Nat.le_of_ble_eq_true rfl) rfl ?_
  obtain ⟨F, g, kp, sv, bf, ip, sg, td, h0, hf, h1, h2, h3, h4, h5, h6, h11, hWa, hC, hX9, hOt, gr, gS, gK, hm8, gU, hn60, hT, hll, hln⟩ := id hM
  obtain ⟨f4, f5, f6, f7, f8, f9, f10, f11, f13, f14, f16, f27⟩ := id hf
  have hA := gA.1
  obtain ⟨r0, r1, rc, rp⟩ := id gr
  obtain ⟨hC8, hP8, hW⟩ := id hA
  refine zr_aload_n dX10_isTangled_0 rfl ?_
  refine zr_iload_n dX10_isTangled_1 rfl ?_
  refine zr_callVi [] dX10_isTangled_2 vX10_155 (qX10_isNoneX hX h0 h1 r0 (by omega) hno) h0 (by decide) (by decide) (by decide) rfl rfl (Nat.le_of_ble_eq_true rfl) (by decide) rfl (fun kr1 s_kr1 h_kr1 => ?_)
  obtain ⟨e_kr1, F_kr1, g0_kr1⟩ := h_kr1
  have kh2 : s_kr1.1 (y + 1) = .inl (0, 82, .inl g) := zFr.get F_kr1 (by omega) h1
  have kh3 : s_kr1.1 (y + 2) = .inl (0, 656, .inl kp) := zFr.get F_kr1 (by omega) h2
  have kh4 : s_kr1.1 (y + 3) = .inl (0, 82, .inl sv) := zFr.get F_kr1 (by omega) h3
  have kh5 : s_kr1.1 (y + 4) = .inl (0, 82, .inl bf) := zFr.get F_kr1 (by omega) h4
  have kh6 : s_kr1.1 (y + 5) = .inl (0, 60, .inl ip) := zFr.get F_kr1 (by omega) h5
  have kh7 : s_kr1.1 (y + 6) = .inl (1, 400, .inl sg) := zFr.get F_kr1 (by omega) h6
  have kh8 : s_kr1.1 (y + 11) = .inl (0, 93, .inl td) := zFr.get F_kr1 (by omega) h11
  have kR9 : zWa y s_kr1 := zWa.fr hWa F_kr1 (by intro q h1 h2 h3; (try simp only [zIn, zJf] at h3); omega)
  have kR10 : zCy y s_kr1 := zCy.fr hC F_kr1 (by intro q h1 h2 h3; (try simp only [zIn, zJf] at h3); omega)
  have kR11 : zXa y s_kr1 := zXa.fr hX9 F_kr1 (by intro q h1 h2 h3; (try simp only [zIn, zJf] at h3); omega)
  have kR12 : zOa y s_kr1 := zOa.fr hOt F_kr1 (by intro q h1 h2 h3; (try simp only [zIn, zJf] at h3); omega)
  have kF13 := zFr.tr zFr.rf (P := zMq y) F_kr1 (by intro q hq; unfold zMq; omega)
  obtain rfl := e_kr1.symm
  refine zr_if_ne (tgt := 22) dX10_isTangled_5 (by decide) (fun c_5 => ?_) (fun c_5 => absurd c_5 (by decide))
  refine zr_iconst (v := 0) dX10_isTangled_22 (by decide) ?_
  exact zr_ireturn dX10_isTangled_23 rfl (rfl) (⟨_, rfl, trivial, kF13, ⟨_, _, _, _, _, _, _, _, g0_kr1, ⟨f4, f5, f6, rfl, rfl, f9, f10, f11, f13, f14, f16, f27⟩, kh2, kh3, kh4, kh5, kh6, kh7, kh8, kR9, kR10, kR11, kR12, gr, gS, gK, hm8, gU, hn60, hT, hll, hln⟩⟩)

set_option maxHeartbeats 400000 in
set_option maxRecDepth 100000 in
theorem qX10_precedentOf {X : zX} (hX : X.1.stackTraces = false) {σ : zS} {y : Nat} {w tm cd dn : Int32} {K : zDk} {A S : zDk} {m : Nat} {U : Nat → zDk} {n : Nat} {T : Nat → Int32} {ll : Nat} {ln : Nat → Int32} {hs kf ld dt dc : Int32} {i : Nat} (hM : zMo y w tm cd dn K A S m U n T ll ln hs kf ld dt dc σ) (gA : zGd A) (hi : i < kC A) (hr : ¬ kR A i = -1) : zMet X mX10_precedentOf yX10_precedentOf 3 0 0 [.ref y, .int (nI i)] σ (zI (fun y_ s => y_ = kR A i ∧ zFr σ s (zMq y) ∧ zMo y w tm 0 0 K A S m U n T ll ln hs kf ld dt dc s)) := by
  refine zMet_of (ls := [some (.ref y), some (.int (nI i))]) rfl (by decide +kernel) rfl (fun h => by cases h) hX (Nat.le_of_ble_eq_true rfl) rfl ?_
  obtain ⟨F, g, kp, sv, bf, ip, sg, td, h0, hf, h1, h2, h3, h4, h5, h6, h11, hWa, hC, hX9, hOt, gr, gS, gK, hm8, gU, hn60, hT, hll, hln⟩ := id hM
  obtain ⟨f4, f5, f6, f7, f8, f9, f10, f11, f13, f14, f16, f27⟩ := id hf
  have hA := gA.1
  obtain ⟨r0, r1, rc, rp⟩ := id gr
  obtain ⟨hC8, hP8, hW⟩ := id hA
  refine zr_aload_n dX10_precedentOf_0 rfl ?_
  refine zr_aload_n dX10_precedentOf_1 rfl ?_
  refine zr_iload_n dX10_precedentOf_2 rfl ?_
  refine zr_pVi [.ref y] dX10_precedentOf_3 vX10_131 (qX10_isCase hX (p := nI i) h0 h1 r0 (by omega)) h0 (by decide) (by decide) (by decide) rfl rfl (Nat.le_of_ble_eq_true rfl) (by decide) rfl ?_
  refine zr_if_ne (tgt := 13) dX10_precedentOf_6 (by decide) (fun c_6 => ?_) (fun c_6 => absurd c_6 (fun q => ite10.mp q (isin_y hi (by omega))))
  refine zr_aload_n dX10_precedentOf_13 rfl ?_
  refine zr_iload_n dX10_precedentOf_14 rfl ?_
  refine zr_iconst (v := 1) dX10_precedentOf_15 (by decide) ?_
  refine zr_pVi [.ref y] dX10_precedentOf_16 vX10_149 (qX10_of hX (i := i) (k := 1) h0 h1 (by omega)) h0 (by decide) (by decide) (by decide) rfl rfl (Nat.le_of_ble_eq_true rfl) (by decide) rfl ?_
  refine zr_eqi (x' := (zvd A i)) ((rc i hi).2.1) ?_
  refine zr_if_ne (tgt := 26) dX10_precedentOf_19 (by decide) (fun c_19 => ?_) (fun c_19 => absurd c_19 (fun q => hr ((zvd0 A i).mp q)))
  refine zr_iconst (v := 0) dX10_precedentOf_26 (by decide) ?_
  refine zr_callVi [] dX10_precedentOf_27 vX10_135 (qX10_fails hX (p := 0) h0) h0 (by decide) (by decide) (by decide) rfl rfl (Nat.le_of_ble_eq_true rfl) (by decide) rfl (fun kr1 s_kr1 h_kr1 => ?_)
  obtain ⟨e_kr1, F_kr1, g0_kr1⟩ := h_kr1
  have kh2 : s_kr1.1 (y + 1) = .inl (0, 82, .inl g) := zFr.get F_kr1 (by omega) h1
  have kh3 : s_kr1.1 (y + 2) = .inl (0, 656, .inl kp) := zFr.get F_kr1 (by omega) h2
  have kh4 : s_kr1.1 (y + 3) = .inl (0, 82, .inl sv) := zFr.get F_kr1 (by omega) h3
  have kh5 : s_kr1.1 (y + 4) = .inl (0, 82, .inl bf) := zFr.get F_kr1 (by omega) h4
  have kh6 : s_kr1.1 (y + 5) = .inl (0, 60, .inl ip) := zFr.get F_kr1 (by omega) h5
  have kh7 : s_kr1.1 (y + 6) = .inl (1, 400, .inl sg) := zFr.get F_kr1 (by omega) h6
  have kh8 : s_kr1.1 (y + 11) = .inl (0, 93, .inl td) := zFr.get F_kr1 (by omega) h11
  have kR9 : zWa y s_kr1 := zWa.fr hWa F_kr1 (by intro q h1 h2 h3; (try simp only [zIn, zJf] at h3); omega)
  have kR10 : zCy y s_kr1 := zCy.fr hC F_kr1 (by intro q h1 h2 h3; (try simp only [zIn, zJf] at h3); omega)
  have kR11 : zXa y s_kr1 := zXa.fr hX9 F_kr1 (by intro q h1 h2 h3; (try simp only [zIn, zJf] at h3); omega)
  have kR12 : zOa y s_kr1 := zOa.fr hOt F_kr1 (by intro q h1 h2 h3; (try simp only [zIn, zJf] at h3); omega)
  have kF13 := zFr.tr zFr.rf (P := zMq y) F_kr1 (by intro q hq; unfold zMq; omega)
  replace e_kr1 := e_kr1.trans (if_pos (by decide) : (_ : Int32) = 0)
  obtain rfl := e_kr1.symm
  refine zr_if_eq (tgt := 37) dX10_precedentOf_30 (by decide) (fun c_30 => ?_) (fun c_30 => absurd (by decide) c_30)
  refine zr_aload_n dX10_precedentOf_37 rfl ?_
  refine zr_iload_n dX10_precedentOf_38 rfl ?_
  refine zr_iconst (v := 2) dX10_precedentOf_39 (by decide) ?_
  refine zr_pVi [] dX10_precedentOf_40 vX10_149 (qX10_of hX (i := i) (k := 2) g0_kr1 kh2 (by omega)) g0_kr1 (by decide) (by decide) (by decide) rfl rfl (Nat.le_of_ble_eq_true rfl) (by decide) rfl ?_
  refine zr_eqi (x' := (kR A i)) ((rc i hi).2.2.1) ?_
  exact zr_ireturn dX10_precedentOf_43 rfl (rfl) (⟨_, rfl, rfl, kF13, ⟨_, _, _, _, _, _, _, _, g0_kr1, ⟨f4, f5, f6, rfl, rfl, f9, f10, f11, f13, f14, f16, f27⟩, kh2, kh3, kh4, kh5, kh6, kh7, kh8, kR9, kR10, kR11, kR12, gr, gS, gK, hm8, gU, hn60, hT, hll, hln⟩⟩)

set_option maxHeartbeats 400000 in
set_option maxRecDepth 100000 in
theorem qX10_precedentOfN {X : zX} (hX : X.1.stackTraces = false) {σ : zS} {y : Nat} {w tm cd dn : Int32} {K : zDk} {A S : zDk} {m : Nat} {U : Nat → zDk} {n : Nat} {T : Nat → Int32} {ll : Nat} {ln : Nat → Int32} {hs kf ld dt dc : Int32} {i : Nat} (hM : zMo y w tm cd dn K A S m U n T ll ln hs kf ld dt dc σ) (gA : zGd A) (hi : i < kC A) (hr : kR A i = -1) : zMet X mX10_precedentOf yX10_precedentOf 3 0 0 [.ref y, .int (nI i)] σ (zI (fun y_ s => True ∧ zFr σ s (zMq y) ∧ zMo y w tm 2 0 K A S m U n T ll ln hs kf ld dt dc s)) := by
  refine zMet_of (ls := [some (.ref y), some (.int (nI i))]) rfl (by decide +kernel) rfl (fun h => by cases h) hX (Nat.le_of_ble_eq_true rfl) rfl ?_
  obtain ⟨F, g, kp, sv, bf, ip, sg, td, h0, hf, h1, h2, h3, h4, h5, h6, h11, hWa, hC, hX9, hOt, gr, gS, gK, hm8, gU, hn60, hT, hll, hln⟩ := id hM
  obtain ⟨f4, f5, f6, f7, f8, f9, f10, f11, f13, f14, f16, f27⟩ := id hf
  have hA := gA.1
  obtain ⟨r0, r1, rc, rp⟩ := id gr
  obtain ⟨hC8, hP8, hW⟩ := id hA
  refine zr_aload_n dX10_precedentOf_0 rfl ?_
  refine zr_aload_n dX10_precedentOf_1 rfl ?_
  refine zr_iload_n dX10_precedentOf_2 rfl ?_
  refine zr_pVi [.ref y] dX10_precedentOf_3 vX10_131 (qX10_isCase hX (p := nI i) h0 h1 r0 (by omega)) h0 (by decide) (by decide) (by decide) rfl rfl (Nat.le_of_ble_eq_true rfl) (by decide) rfl ?_
  refine zr_if_ne (tgt := 13) dX10_precedentOf_6 (by decide) (fun c_6 => ?_) (fun c_6 => absurd c_6 (fun q => ite10.mp q (isin_y hi (by omega))))
  refine zr_aload_n dX10_precedentOf_13 rfl ?_
  refine zr_iload_n dX10_precedentOf_14 rfl ?_
  refine zr_iconst (v := 1) dX10_precedentOf_15 (by decide) ?_
  refine zr_pVi [.ref y] dX10_precedentOf_16 vX10_149 (qX10_of hX (i := i) (k := 1) h0 h1 (by omega)) h0 (by decide) (by decide) (by decide) rfl rfl (Nat.le_of_ble_eq_true rfl) (by decide) rfl ?_
  refine zr_eqi (x' := (zvd A i)) ((rc i hi).2.1) ?_
  refine zr_if_ne (tgt := 26) dX10_precedentOf_19 (by decide) (fun c_19 => absurd ((zvd0 A i).mpr hr) c_19) (fun c_19 => ?_)
  refine zr_iconst (v := 2) dX10_precedentOf_22 (by decide) ?_
  refine zr_goto (tgt := 27) dX10_precedentOf_23 (by decide) ?_
  refine zr_callVi [] dX10_precedentOf_27 vX10_135 (qX10_fails hX (p := 2) h0) h0 (by decide) (by decide) (by decide) rfl rfl (Nat.le_of_ble_eq_true rfl) (by decide) rfl (fun kr1 s_kr1 h_kr1 => ?_)
  obtain ⟨e_kr1, F_kr1, g0_kr1⟩ := h_kr1
  have kh2 : s_kr1.1 (y + 1) = .inl (0, 82, .inl g) := zFr.get F_kr1 (by omega) h1
  have kh3 : s_kr1.1 (y + 2) = .inl (0, 656, .inl kp) := zFr.get F_kr1 (by omega) h2
  have kh4 : s_kr1.1 (y + 3) = .inl (0, 82, .inl sv) := zFr.get F_kr1 (by omega) h3
  have kh5 : s_kr1.1 (y + 4) = .inl (0, 82, .inl bf) := zFr.get F_kr1 (by omega) h4
  have kh6 : s_kr1.1 (y + 5) = .inl (0, 60, .inl ip) := zFr.get F_kr1 (by omega) h5
  have kh7 : s_kr1.1 (y + 6) = .inl (1, 400, .inl sg) := zFr.get F_kr1 (by omega) h6
  have kh8 : s_kr1.1 (y + 11) = .inl (0, 93, .inl td) := zFr.get F_kr1 (by omega) h11
  have kR9 : zWa y s_kr1 := zWa.fr hWa F_kr1 (by intro q h1 h2 h3; (try simp only [zIn, zJf] at h3); omega)
  have kR10 : zCy y s_kr1 := zCy.fr hC F_kr1 (by intro q h1 h2 h3; (try simp only [zIn, zJf] at h3); omega)
  have kR11 : zXa y s_kr1 := zXa.fr hX9 F_kr1 (by intro q h1 h2 h3; (try simp only [zIn, zJf] at h3); omega)
  have kR12 : zOa y s_kr1 := zOa.fr hOt F_kr1 (by intro q h1 h2 h3; (try simp only [zIn, zJf] at h3); omega)
  have kF13 := zFr.tr zFr.rf (P := zMq y) F_kr1 (by intro q hq; unfold zMq; omega)
  replace e_kr1 := e_kr1.trans (if_neg (by decide) : (_ : Int32) = 1)
  obtain rfl := e_kr1.symm
  refine zr_if_eq (tgt := 37) dX10_precedentOf_30 (by decide) (fun c_30 => absurd c_30 (by decide)) (fun c_30 => ?_)
  refine zr_iconst (v := 0) dX10_precedentOf_33 (by decide) ?_
  refine zr_goto (tgt := 43) dX10_precedentOf_34 (by decide) ?_
  exact zr_ireturn dX10_precedentOf_43 rfl (rfl) (⟨_, rfl, trivial, kF13, ⟨_, _, _, _, _, _, _, _, g0_kr1, ⟨f4, f5, f6, rfl, rfl, f9, f10, f11, f13, f14, f16, f27⟩, kh2, kh3, kh4, kh5, kh6, kh7, kh8, kR9, kR10, kR11, kR12, gr, gS, gK, hm8, gU, hn60, hT, hll, hln⟩⟩)

set_option maxHeartbeats 400000 in
set_option maxRecDepth 100000 in
theorem qX10_precedentOfX {X : zX} (hX : X.1.stackTraces = false) {σ : zS} {y : Nat} {w tm cd dn : Int32} {K : zDk} {A S : zDk} {m : Nat} {U : Nat → zDk} {n : Nat} {T : Nat → Int32} {ll : Nat} {ln : Nat → Int32} {hs kf ld dt dc : Int32} {p : Int32} (hM : zMo y w tm cd dn K A S m U n T ll ln hs kf ld dt dc σ) (gA : zGd A) (hno : ¬ (¬ p < 0 ∧ p < nI (kC A))) : zMet X mX10_precedentOf yX10_precedentOf 3 0 0 [.ref y, .int p] σ (zI (fun y_ s => True ∧ zFr σ s (zMq y) ∧ zMo y w tm 1 0 K A S m U n T ll ln hs kf ld dt dc s)) := by
  refine zMet_of (ls := [some (.ref y), some (.int p)]) rfl (by decide +kernel) rfl (fun h => by cases h) hX (Nat.le_of_ble_eq_true rfl) rfl ?_
  obtain ⟨F, g, kp, sv, bf, ip, sg, td, h0, hf, h1, h2, h3, h4, h5, h6, h11, hWa, hC, hX9, hOt, gr, gS, gK, hm8, gU, hn60, hT, hll, hln⟩ := id hM
  obtain ⟨f4, f5, f6, f7, f8, f9, f10, f11, f13, f14, f16, f27⟩ := id hf
  have hA := gA.1
  obtain ⟨r0, r1, rc, rp⟩ := id gr
  obtain ⟨hC8, hP8, hW⟩ := id hA
  refine zr_aload_n dX10_precedentOf_0 rfl ?_
  refine zr_aload_n dX10_precedentOf_1 rfl ?_
  refine zr_iload_n dX10_precedentOf_2 rfl ?_
  refine zr_pVi [.ref y] dX10_precedentOf_3 vX10_131 (qX10_isCase hX (p := p) h0 h1 r0 (by omega)) h0 (by decide) (by decide) (by decide) rfl rfl (Nat.le_of_ble_eq_true rfl) (by decide) rfl ?_
  refine zr_if_ne (tgt := 13) dX10_precedentOf_6 (by decide) (fun c_6 => absurd (ite10.mpr hno) c_6) (fun c_6 => ?_)
  refine zr_iconst (v := 1) dX10_precedentOf_9 (by decide) ?_
  refine zr_goto (tgt := 27) dX10_precedentOf_10 (by decide) ?_
  refine zr_callVi [] dX10_precedentOf_27 vX10_135 (qX10_fails hX (p := 1) h0) h0 (by decide) (by decide) (by decide) rfl rfl (Nat.le_of_ble_eq_true rfl) (by decide) rfl (fun kr1 s_kr1 h_kr1 => ?_)
  obtain ⟨e_kr1, F_kr1, g0_kr1⟩ := h_kr1
  have kh2 : s_kr1.1 (y + 1) = .inl (0, 82, .inl g) := zFr.get F_kr1 (by omega) h1
  have kh3 : s_kr1.1 (y + 2) = .inl (0, 656, .inl kp) := zFr.get F_kr1 (by omega) h2
  have kh4 : s_kr1.1 (y + 3) = .inl (0, 82, .inl sv) := zFr.get F_kr1 (by omega) h3
  have kh5 : s_kr1.1 (y + 4) = .inl (0, 82, .inl bf) := zFr.get F_kr1 (by omega) h4
  have kh6 : s_kr1.1 (y + 5) = .inl (0, 60, .inl ip) := zFr.get F_kr1 (by omega) h5
  have kh7 : s_kr1.1 (y + 6) = .inl (1, 400, .inl sg) := zFr.get F_kr1 (by omega) h6
  have kh8 : s_kr1.1 (y + 11) = .inl (0, 93, .inl td) := zFr.get F_kr1 (by omega) h11
  have kR9 : zWa y s_kr1 := zWa.fr hWa F_kr1 (by intro q h1 h2 h3; (try simp only [zIn, zJf] at h3); omega)
  have kR10 : zCy y s_kr1 := zCy.fr hC F_kr1 (by intro q h1 h2 h3; (try simp only [zIn, zJf] at h3); omega)
  have kR11 : zXa y s_kr1 := zXa.fr hX9 F_kr1 (by intro q h1 h2 h3; (try simp only [zIn, zJf] at h3); omega)
  have kR12 : zOa y s_kr1 := zOa.fr hOt F_kr1 (by intro q h1 h2 h3; (try simp only [zIn, zJf] at h3); omega)
  have kF13 := zFr.tr zFr.rf (P := zMq y) F_kr1 (by intro q hq; unfold zMq; omega)
  replace e_kr1 := e_kr1.trans (if_neg (by decide) : (_ : Int32) = 1)
  obtain rfl := e_kr1.symm
  refine zr_if_eq (tgt := 37) dX10_precedentOf_30 (by decide) (fun c_30 => absurd c_30 (by decide)) (fun c_30 => ?_)
  refine zr_iconst (v := 0) dX10_precedentOf_33 (by decide) ?_
  refine zr_goto (tgt := 43) dX10_precedentOf_34 (by decide) ?_
  exact zr_ireturn dX10_precedentOf_43 rfl (rfl) (⟨_, rfl, trivial, kF13, ⟨_, _, _, _, _, _, _, _, g0_kr1, ⟨f4, f5, f6, rfl, rfl, f9, f10, f11, f13, f14, f16, f27⟩, kh2, kh3, kh4, kh5, kh6, kh7, kh8, kR9, kR10, kR11, kR12, gr, gS, gK, hm8, gU, hn60, hT, hll, hln⟩⟩)

