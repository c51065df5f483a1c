set_option maxHeartbeats 400000 in
set_option maxRecDepth 100000 in
theorem qX9_openCase {X : zX} (hX : X.1.stackTraces = false) {σ : zS} {x : Nat} {A S : zDk} {m : Nat} {U : Nat → zDk} {n : Nat} {T : Nat → Int32} {ll : Nat} {ln : Nat → Int32} {hs kf ld dt dc : Int32} (hC : zKt x A S m U n T ll ln hs kf ld dt dc σ) (hA : zDw A) (hQ : ∀ i j : Nat, i < 7 → j < 7 → zQ X i = zQ X j → i = j)  (hob : zOb A 0 0 = 0) : zMet X mX9_openCase yX9_openCase 9 0 0 [.ref x] σ (zI (fun y_ s => y_ = nI (kC A) ∧ zFr σ s (zXr x) ∧ zKt x (aCase A) S (min (m + 1) 8) (zPu A U) n T ll ln hs kf ld dt dc s)) := by
  refine zMet_of (ls := [some (.ref x)]) rfl (by decide +kernel) rfl (fun h => by cases h) hX (Nat.le_of_ble_eq_true rfl) rfl ?_
  obtain ⟨K, lf, xo, xA, xK, wK, xS, xH, xJ, xT, xL, lL⟩ := id hC
  obtain ⟨hj, jr, jk, jc, jo⟩ := id xJ
  obtain ⟨hC8, hP8, hW⟩ := id hA
  obtain ⟨a0, a1, a2, a3, a4, a5, a6⟩ := zOb_ok hob (by decide)
  have k8 := a0 rfl
  refine zr_aload_n dX9_openCase_0 rfl ?_
  refine zr_enum (i := 0) dX9_openCase_1 (by decide) rfl fX9_80 ?_
  refine zr_iconst (v := 0) dX9_openCase_4 (by decide) ?_
  refine zr_callVv [] dX9_openCase_5 vX9_86 (qX9_admit hX (c := 0) (k := 0) hC hA hQ (by decide) (by omega) hob) xo (by decide) (by decide) (by decide) rfl rfl (Nat.le_of_ble_eq_true rfl) (by decide) rfl (fun skq1 hkq1 => ?_)
  obtain ⟨Fkq1, Ckq1⟩ := hkq1
  have kF2 := zFr.tr zFr.rf (P := zXr x) Fkq1 (fun q hq => hq)
  obtain ⟨K3, lf3, xo3, xA3, xK3, wK3, xS3, xH3, xJ3, xT3, xL3, lL3⟩ := id Ckq1
  obtain ⟨hj3, jr3, jk3, jc3, jo3⟩ := id xJ3
  refine zr_aload_n dX9_openCase_8 rfl ?_
  refine zr_getfield dX9_openCase_9 fX9_20 xo3 rfl (by decide) ?_
  refine zr_callVi [] dX9_openCase_12 vX9_90 (qX3_addCase hX  xA3 hA (by omega)) (zDA.obj xA3) (by decide) (by decide) (by decide) rfl rfl (Nat.le_of_ble_eq_true rfl) (by decide) rfl (fun kr4 s_kr4 h_kr4 => ?_)
  obtain ⟨e_kr4, F_kr4, r0_kr4⟩ := h_kr4
  have kh5 : s_kr4.1 x = .inr (7, [.ref ((x + 1)), .ref ((x + 2)), .ref ((x + 24)), .ref ((x + 31)), .ref ((x + 53)), .ref ((x + 75)), .ref ((x + 253)), .ref ((x + 255)), .ref ((x + 260)), .int (nI ll), .int hs, .int kf, .int ld, .int dt, .int dc]) := zFr.get F_kr4 (by (try simp only [zIn]); omega) xo3
  have kh6 : s_kr4.1 (x + 1) = .inr (3, [.ref ((x + 2)), .ref ((x + 24)), .ref ((x + 27)), .ref ((x + 29))]) := zFr.get F_kr4 (by (try simp only [zIn]); omega) hj3
  have kh7 : s_kr4.1 (x + 260) = .inl (1, 400, .inl lf3) := zFr.get F_kr4 (by (try simp only [zIn]); omega) xL3
  have kR8 : zDA (x + 31) K3 s_kr4 := zDA.fr xK3 F_kr4 (by intro q h1 h2 h3; (try simp only [zIn, zJf] at h3); omega)
  have kR9 : zDA (x + 53) S s_kr4 := zDA.fr xS3 F_kr4 (by intro q h1 h2 h3; (try simp only [zIn, zJf] at h3); omega)
  have kR10 : zHi (x + 75) (min (m + 1) 8) (zPu A U) s_kr4 := zHi.fr xH3 F_kr4 (by intro q h1 h2 h3; (try simp only [zIn, zJf] at h3); omega)
  have kR11 : zSk (x + 255) n T s_kr4 := zSk.fr xT3 F_kr4 (by intro q h1 h2 h3; (try simp only [zIn, zJf] at h3); omega)
  have kR12 : zRx (x + 24) s_kr4 := zRx.fr jr3 F_kr4 (by intro q h1 h2 h3; (try simp only [zIn, zJf] at h3); omega)
  have kR13 : zCu (x + 253) s_kr4 := zCu.fr jk3 F_kr4 (by intro q h1 h2 h3; (try simp only [zIn, zJf] at h3); omega)
  have kR14 : zCu (x + 27) s_kr4 := zCu.fr jc3 F_kr4 (by intro q h1 h2 h3; (try simp only [zIn, zJf] at h3); omega)
  have kR15 : zCu (x + 29) s_kr4 := zCu.fr jo3 F_kr4 (by intro q h1 h2 h3; (try simp only [zIn, zJf] at h3); omega)
  have kF16 := zFr.tr kF2 F_kr4 (by intro q hq; (try simp only [zIn, zJf, zXr] at hq); unfold zXr; omega)
  obtain rfl := e_kr4.symm
  exact zr_ireturn dX9_openCase_15 rfl (rfl) (⟨_, rfl, rfl, kF16, ⟨_, _, kh5, r0_kr4, kR8, wK3, kR9, kR10, ⟨kh6, kR12, kR13, kR14, kR15⟩, kR11, kh7, lL3⟩⟩)

set_option maxHeartbeats 400000 in
set_option maxRecDepth 100000 in
theorem qX9_openCaseD {X : zX} (hX : X.1.stackTraces = false) {σ : zS} {x : Nat} {A S : zDk} {m : Nat} {U : Nat → zDk} {n : Nat} {T : Nat → Int32} {ll : Nat} {ln : Nat → Int32} {hs kf ld dt dc : Int32} (hC : zKt x A S m U n T ll ln hs kf ld dt dc σ) (hA : zDw A) (hQ : ∀ i j : Nat, i < 7 → j < 7 → zQ X i = zQ X j → i = j)  (hno : ¬ zOb A 0 0 = 0) (hN : σ.2 = none) : zMet X mX9_openCase yX9_openCase 8 1 6 [.ref x] σ (fun o s => o = .inr "java/lang/UnsupportedOperationException" ∧ zFr σ s (zXr x) ∧ zKt x A S m U n T ll ln hs kf (zOb A 0 0) (zDt A 0 0 (zOb A 0 0)) 0 s) := by
  refine zMet_of (ls := [some (.ref x)]) rfl (by decide +kernel) rfl (fun h => by cases h) hX (Nat.le_of_ble_eq_true rfl) rfl ?_
  obtain ⟨K, lf, xo, xA, xK, wK, xS, xH, xJ, xT, xL, lL⟩ := id hC
  obtain ⟨hj, jr, jk, jc, jo⟩ := id xJ
  obtain ⟨hC8, hP8, hW⟩ := id hA
  refine zr_aload_n dX9_openCase_0 rfl ?_
  refine zr_enum (i := 0) dX9_openCase_1 (by decide) rfl fX9_80 ?_
  refine zr_iconst (v := 0) dX9_openCase_4 (by decide) ?_
  exact zr_callV (rest := []) dX9_openCase_5 vX9_86 (qX9_admitX hX (c := 0) (k := 0) hC hA hQ (by decide) (by omega) (Or.inl rfl) hno hN) (by decide) (by decide) (by decide) rfl rfl (Nat.le_of_ble_eq_true rfl) xo (by decide) rfl (fun v s h => by cases h.1) (fun E s h => h)

set_option maxHeartbeats 400000 in
set_option maxRecDepth 100000 in
theorem qX9_cross {X : zX} (hX : X.1.stackTraces = false) {σ : zS} {x : Nat} {A S : zDk} {m : Nat} {U : Nat → zDk} {n : Nat} {T : Nat → Int32} {ll : Nat} {ln : Nat → Int32} {hs kf ld dt dc : Int32} {i : Nat} {c : Int32} (hC : zKt x A S m U n T ll ln hs kf ld dt dc σ) (hA : zDw A) (hQ : ∀ i j : Nat, i < 7 → j < 7 → zQ X i = zQ X j → i = j) (hi : i < kC A) (hl : ¬ zlet c = 0) (hob : zOb A 1 i = 0) : zMet X mX9_cross yX9_cross 9 0 0 [.ref x, .int (nI i), .int c] σ (zI (fun y_ s => y_ = nI (kN A i + 1) ∧ zFr σ s (zXr x) ∧ zKt x (aWord A i (kN A i + 1) (upd (kL A i) (kN A i) (zlet c))) S (min (m + 1) 8) (zPu A U) n T ll ln hs kf ld dt dc s)) := by
  refine zMet_of (ls := [some (.ref x), some (.int (nI i)), some (.int c), none]) rfl (by decide +kernel) rfl (fun h => by cases h) hX (Nat.le_of_ble_eq_true rfl) rfl ?_
  obtain ⟨K, lf, xo, xA, xK, wK, xS, xH, xJ, xT, xL, lL⟩ := id hC
  obtain ⟨hj, jr, jk, jc, jo⟩ := id xJ
  obtain ⟨hC8, hP8, hW⟩ := id hA
  obtain ⟨a0, a1, a2, a3, a4, a5, a6⟩ := zOb_ok hob (by decide)
  have n16 := a2 rfl
  refine zr_aload_n dX9_cross_0 rfl ?_
  refine zr_iload_n dX9_cross_1 rfl ?_
  refine zr_callVv [] dX9_cross_2 vX9_94 (qX9_requireCase hX (i := i) hC hA (by omega)) xo (by decide) (by decide) (by decide) rfl rfl (Nat.le_of_ble_eq_true rfl) (by decide) rfl (fun s_ h_ => ?_)
  rw [h_]; clear h_
  refine zr_iload_n dX9_cross_5 rfl ?_
  refine zr_pSi [] dX9_cross_6 vX9_98 (qX9_letterOf hX σ (c)) (by decide) (by decide) (by decide) rfl rfl (Nat.le_of_ble_eq_true rfl) rfl ?_
  refine zr_istore_n (ls' := [some (.ref x), some (.int (nI i)), some (.int c), some (.int ((zlet c)))]) dX9_cross_9 rfl (by decide) rfl ?_
  refine zr_iload_n dX9_cross_10 rfl ?_
  refine zr_if_ne (tgt := 24) dX9_cross_11 (by decide) (fun c_11 => ?_) (fun c_11 => absurd c_11 (hl))
  refine zr_aload_n dX9_cross_24 rfl ?_
  refine zr_enum (i := 1) dX9_cross_25 (by decide) rfl fX9_109 ?_
  refine zr_iload_n dX9_cross_28 rfl ?_
  refine zr_callVv [] dX9_cross_29 vX9_86 (qX9_admit hX (c := 1) (k := i) hC hA hQ (by decide) (by omega) hob) xo (by decide) (by decide) (by decide) rfl rfl (Nat.le_of_ble_eq_true rfl) (by decide) rfl (fun skq1 hkq1 => ?_)
  obtain ⟨Fkq1, Ckq1⟩ := hkq1
  have kF2 := zFr.tr zFr.rf (P := zXr x) Fkq1 (fun q hq => hq)
  obtain ⟨K3, lf3, xo3, xA3, xK3, wK3, xS3, xH3, xJ3, xT3, xL3, lL3⟩ := id Ckq1
  obtain ⟨hj3, jr3, jk3, jc3, jo3⟩ := id xJ3
  refine zr_aload_n dX9_cross_32 rfl ?_
  refine zr_getfield dX9_cross_33 fX9_20 xo3 rfl (by decide) ?_
  obtain ⟨wr4, rr4, mr4, tr4, ar4, fr4, ca4, cb4, cc4, cd4, ce4, cf4, cw4⟩ := id xA3
  refine zr_getfield dX9_cross_36 fX9_112 ca4 rfl (by decide) ?_
  refine zr_iload_n dX9_cross_39 rfl ?_
  refine zr_aaload6 (b := (x + 2 + 6 + 2 * i)) dX9_cross_40 cb4 (vp_in_nI (n := i) (by omega) (by omega)) (by rw [nI_clamp (by omega)]; exact (cw4 i (by omega)).1) ?_
  refine zr_iload_n dX9_cross_41 rfl ?_
  refine zr_callVv [] dX9_cross_42 vX9_116 (qW_append hX (i := i) (zlet c) xA3 hA (by omega) (by omega)) (zDA.wobj xA3 (by omega)) (by decide) (by decide) (by decide) rfl rfl (Nat.le_of_ble_eq_true rfl) (by decide) rfl (fun s_kr5 h_kr5 => ?_)
  obtain ⟨F_kr5, r0_kr5⟩ := h_kr5
  have kh6 : s_kr5.1 x = .inr (7, [.ref ((x + 1)), .ref ((x + 2)), .ref ((x + 24)), .ref ((x + 31)), .ref ((x + 53)), .ref ((x + 75)), .ref ((x + 253)), .ref ((x + 255)), .ref ((x + 260)), .int (nI ll), .int hs, .int kf, .int ld, .int dt, .int dc]) := zFr.get F_kr5 (by (try simp only [zIn]); omega) xo3
  have kh7 : s_kr5.1 (x + 1) = .inr (3, [.ref ((x + 2)), .ref ((x + 24)), .ref ((x + 27)), .ref ((x + 29))]) := zFr.get F_kr5 (by (try simp only [zIn]); omega) hj3
  have kh8 : s_kr5.1 (x + 260) = .inl (1, 400, .inl lf3) := zFr.get F_kr5 (by (try simp only [zIn]); omega) xL3
  have kR9 : zDA (x + 31) K3 s_kr5 := zDA.fr xK3 F_kr5 (by intro q h1 h2 h3; (try simp only [zIn, zJf] at h3); omega)
  have kR10 : zDA (x + 53) S s_kr5 := zDA.fr xS3 F_kr5 (by intro q h1 h2 h3; (try simp only [zIn, zJf] at h3); omega)
  have kR11 : zHi (x + 75) (min (m + 1) 8) (zPu A U) s_kr5 := zHi.fr xH3 F_kr5 (by intro q h1 h2 h3; (try simp only [zIn, zJf] at h3); omega)
  have kR12 : zSk (x + 255) n T s_kr5 := zSk.fr xT3 F_kr5 (by intro q h1 h2 h3; (try simp only [zIn, zJf] at h3); omega)
  have kR13 : zRx (x + 24) s_kr5 := zRx.fr jr3 F_kr5 (by intro q h1 h2 h3; (try simp only [zIn, zJf] at h3); omega)
  have kR14 : zCu (x + 253) s_kr5 := zCu.fr jk3 F_kr5 (by intro q h1 h2 h3; (try simp only [zIn, zJf] at h3); omega)
  have kR15 : zCu (x + 27) s_kr5 := zCu.fr jc3 F_kr5 (by intro q h1 h2 h3; (try simp only [zIn, zJf] at h3); omega)
  have kR16 : zCu (x + 29) s_kr5 := zCu.fr jo3 F_kr5 (by intro q h1 h2 h3; (try simp only [zIn, zJf] at h3); omega)
  have kF17 := zFr.tr kF2 F_kr5 (by intro q hq; (try simp only [zIn, zJf, zXr] at hq); unfold zXr; omega)
  refine zr_aload_n dX9_cross_45 rfl ?_
  refine zr_getfield dX9_cross_46 fX9_20 kh6 rfl (by decide) ?_
  obtain ⟨wr18, rr18, mr18, tr18, ar18, fr18, ca18, cb18, cc18, cd18, ce18, cf18, cw18⟩ := id r0_kr5
  refine zr_getfield dX9_cross_49 fX9_112 ca18 rfl (by decide) ?_
  refine zr_iload_n dX9_cross_52 rfl ?_
  refine zr_aaload6 (b := (x + 2 + 6 + 2 * i)) dX9_cross_53 cb18 (vp_in_nI (n := i) (by omega) (by omega)) (by rw [nI_clamp (by omega)]; exact (cw18 i (by omega)).1) ?_
  obtain ⟨we19, wg19, wc19, wl19, wm19⟩ := cw18 i (by omega)
  refine zr_getfield dX9_cross_54 fX9_121 wc19 rfl (by decide) ?_
  exact zr_ireturn dX9_cross_57 rfl (rfl) (⟨_, rfl, congrArg nI (zuN_at _ _ _), kF17, ⟨_, _, kh6, r0_kr5, kR9, wK3, kR10, kR11, ⟨kh7, kR13, kR14, kR15, kR16⟩, kR12, kh8, lL3⟩⟩)

set_option maxHeartbeats 400000 in
set_option maxRecDepth 100000 in
theorem qX9_crossD {X : zX} (hX : X.1.stackTraces = false) {σ : zS} {x : Nat} {A S : zDk} {m : Nat} {U : Nat → zDk} {n : Nat} {T : Nat → Int32} {ll : Nat} {ln : Nat → Int32} {hs kf ld dt dc : Int32} {i : Nat} {c : Int32} (hC : zKt x A S m U n T ll ln hs kf ld dt dc σ) (hA : zDw A) (hQ : ∀ i j : Nat, i < 7 → j < 7 → zQ X i = zQ X j → i = j) (hi : i < kC A) (hl : ¬ zlet c = 0) (hno : ¬ zOb A 1 i = 0) (hN : σ.2 = none) : zMet X mX9_cross yX9_cross 8 1 6 [.ref x, .int (nI i), .int c] σ (fun o s => o = .inr "java/lang/UnsupportedOperationException" ∧ zFr σ s (zXr x) ∧ zKt x A S m U n T ll ln hs kf (zOb A 1 i) (zDt A 1 i (zOb A 1 i)) 0 s) := by
  refine zMet_of (ls := [some (.ref x), some (.int (nI i)), some (.int c), none]) rfl (by decide +kernel) rfl (fun h => by cases h) hX (Nat.le_of_ble_eq_true rfl) rfl ?_
  obtain ⟨K, lf, xo, xA, xK, wK, xS, xH, xJ, xT, xL, lL⟩ := id hC
  obtain ⟨hj, jr, jk, jc, jo⟩ := id xJ
  obtain ⟨hC8, hP8, hW⟩ := id hA
  refine zr_aload_n dX9_cross_0 rfl ?_
  refine zr_iload_n dX9_cross_1 rfl ?_
  refine zr_callVv [] dX9_cross_2 vX9_94 (qX9_requireCase hX (i := i) hC hA (by omega)) xo (by decide) (by decide) (by decide) rfl rfl (Nat.le_of_ble_eq_true rfl) (by decide) rfl (fun s_ h_ => ?_)
  rw [h_]; clear h_
  refine zr_iload_n dX9_cross_5 rfl ?_
  refine zr_pSi [] dX9_cross_6 vX9_98 (qX9_letterOf hX σ (c)) (by decide) (by decide) (by decide) rfl rfl (Nat.le_of_ble_eq_true rfl) rfl ?_
  refine zr_istore_n (ls' := [some (.ref x), some (.int (nI i)), some (.int c), some (.int ((zlet c)))]) dX9_cross_9 rfl (by decide) rfl ?_
  refine zr_iload_n dX9_cross_10 rfl ?_
  refine zr_if_ne (tgt := 24) dX9_cross_11 (by decide) (fun c_11 => ?_) (fun c_11 => absurd c_11 (hl))
  refine zr_aload_n dX9_cross_24 rfl ?_
  refine zr_enum (i := 1) dX9_cross_25 (by decide) rfl fX9_109 ?_
  refine zr_iload_n dX9_cross_28 rfl ?_
  exact zr_callV (rest := []) dX9_cross_29 vX9_86 (qX9_admitX hX (c := 1) (k := i) hC hA hQ (by decide) (by omega) (Or.inr hi) hno hN) (by decide) (by decide) (by decide) rfl rfl (Nat.le_of_ble_eq_true rfl) xo (by decide) rfl (fun v s h => by cases h.1) (fun E s h => h)

set_option maxHeartbeats 400000 in
set_option maxRecDepth 100000 in
theorem qX9_crossN {X : zX} (hX : X.1.stackTraces = false) {σ : zS} {x : Nat} {A S : zDk} {m : Nat} {U : Nat → zDk} {n : Nat} {T : Nat → Int32} {ll : Nat} {ln : Nat → Int32} {hs kf ld dt dc : Int32} {i : Nat} {c : Int32} (hC : zKt x A S m U n T ll ln hs kf ld dt dc σ) (hA : zDw A) (hi : i < kC A) (hl : zlet c = 0) (hN : σ.2 = none) : zMet X mX9_cross yX9_cross 7 1 6 [.ref x, .int (nI i), .int c] σ (fun o s => o = .inr "java/lang/IllegalArgumentException" ∧ s = σ) := by
  refine zMet_of (ls := [some (.ref x), some (.int (nI i)), some (.int c), none]) rfl (by decide +kernel) rfl (fun h => by cases h) hX (Nat.le_of_ble_eq_true rfl) rfl ?_
  obtain ⟨K, lf, xo, xA, xK, wK, xS, xH, xJ, xT, xL, lL⟩ := id hC
  obtain ⟨hj, jr, jk, jc, jo⟩ := id xJ
  obtain ⟨hC8, hP8, hW⟩ := id hA
  refine zr_aload_n dX9_cross_0 rfl ?_
  refine zr_iload_n dX9_cross_1 rfl ?_
  refine zr_callVv [] dX9_cross_2 vX9_94 (qX9_requireCase hX (i := i) hC hA (by omega)) xo (by decide) (by decide) (by decide) rfl rfl (Nat.le_of_ble_eq_true rfl) (by decide) rfl (fun s_ h_ => ?_)
  rw [h_]; clear h_
  refine zr_iload_n dX9_cross_5 rfl ?_
  refine zr_pSi [] dX9_cross_6 vX9_98 (qX9_letterOf hX σ (c)) (by decide) (by decide) (by decide) rfl rfl (Nat.le_of_ble_eq_true rfl) rfl ?_
  refine zr_istore_n (ls' := [some (.ref x), some (.int (nI i)), some (.int c), some (.int ((zlet c)))]) dX9_cross_9 rfl (by decide) rfl ?_
  refine zr_iload_n dX9_cross_10 rfl ?_
  refine zr_if_ne (tgt := 24) dX9_cross_11 (by decide) (fun c_11 => absurd (hl) c_11) (fun c_11 => ?_)
  exact zr_thrN dX9_cross_14 dX9_cross_17 dX9_cross_18 dX9_cross_20 dX9_cross_23 thX9_102_104 rfl (by decide) (by decide) (by decide) (by decide) (⟨rfl, zNN hN⟩)

set_option maxHeartbeats 400000 in
set_option maxRecDepth 100000 in
theorem qX9_crossX {X : zX} (hX : X.1.stackTraces = false) {σ : zS} {x : Nat} {A S : zDk} {m : Nat} {U : Nat → zDk} {n : Nat} {T : Nat → Int32} {ll : Nat} {ln : Nat → Int32} {hs kf ld dt dc : Int32} {p : Int32} {c : Int32} (hC : zKt x A S m U n T ll ln hs kf ld dt dc σ) (hA : zDw A) (hno : ¬ (¬ p < 0 ∧ p < nI (kC A))) (hN : σ.2 = none) : zMet X mX9_cross yX9_cross 7 1 6 [.ref x, .int p, .int c] σ (fun o s => o = .inr "java/lang/IndexOutOfBoundsException" ∧ s = σ) := by
  refine zMet_of (ls := [some (.ref x), some (.int p), some (.int c), none]) rfl (by decide +kernel) rfl (fun h => by cases h) hX (Nat.le_of_ble_eq_true rfl) rfl ?_
  obtain ⟨K, lf, xo, xA, xK, wK, xS, xH, xJ, xT, xL, lL⟩ := id hC
  obtain ⟨hj, jr, jk, jc, jo⟩ := id xJ
  obtain ⟨hC8, hP8, hW⟩ := id hA
  refine zr_aload_n dX9_cross_0 rfl ?_
  refine zr_iload_n dX9_cross_1 rfl ?_
  exact zr_callV (rest := []) dX9_cross_2 vX9_94 (qX9_requireCaseX hX (p := p) hC hA hno hN) (by decide) (by decide) (by decide) rfl rfl (Nat.le_of_ble_eq_true rfl) xo (by decide) rfl (fun v s h => by cases h.1) (fun E s h => h)

set_option maxHeartbeats 400000 in
set_option maxRecDepth 100000 in
theorem qX9_cutLast {X : zX} (hX : X.1.stackTraces = false) {σ : zS} {x : Nat} {A S : zDk} {m : Nat} {U : Nat → zDk} {n : Nat} {T : Nat → Int32} {ll : Nat} {ln : Nat → Int32} {hs kf ld dt dc : Int32} {i : Nat} (hC : zKt x A S m U n T ll ln hs kf ld dt dc σ) (hA : zDw A) (hQ : ∀ i j : Nat, i < 7 → j < 7 → zQ X i = zQ X j → i = j) (hi : i < kC A) (hob : zOb A 2 i = 0) : zMet X mX9_cutLast yX9_cutLast 9 0 0 [.ref x, .int (nI i)] σ (zI (fun y_ s => y_ = zchr (kL A i (kN A i - 1)) ∧ zFr σ s (zXr x) ∧ zKt x (aWord A i (kN A i - 1) (kL A i)) S (min (m + 1) 8) (zPu A U) n T ll ln hs kf ld dt dc s)) := by
  refine zMet_of (ls := [some (.ref x), some (.int (nI i))]) rfl (by decide +kernel) rfl (fun h => by cases h) hX (Nat.le_of_ble_eq_true rfl) rfl ?_
  obtain ⟨K, lf, xo, xA, xK, wK, xS, xH, xJ, xT, xL, lL⟩ := id hC
  obtain ⟨hj, jr, jk, jc, jo⟩ := id xJ
  obtain ⟨hC8, hP8, hW⟩ := id hA
  obtain ⟨a0, a1, a2, a3, a4, a5, a6⟩ := zOb_ok hob (by decide)
  have n0 := a3 rfl
  refine zr_aload_n dX9_cutLast_0 rfl ?_
  refine zr_iload_n dX9_cutLast_1 rfl ?_
  refine zr_callVv [] dX9_cutLast_2 vX9_94 (qX9_requireCase hX (i := i) hC hA (by omega)) xo (by decide) (by decide) (by decide) rfl rfl (Nat.le_of_ble_eq_true rfl) (by decide) rfl (fun s_ h_ => ?_)
  rw [h_]; clear h_
  refine zr_aload_n dX9_cutLast_5 rfl ?_
  refine zr_enum (i := 2) dX9_cutLast_6 (by decide) rfl fX9_124 ?_
  refine zr_iload_n dX9_cutLast_9 rfl ?_
  refine zr_callVv [] dX9_cutLast_10 vX9_86 (qX9_admit hX (c := 2) (k := i) hC hA hQ (by decide) (by omega) hob) xo (by decide) (by decide) (by decide) rfl rfl (Nat.le_of_ble_eq_true rfl) (by decide) rfl (fun skq1 hkq1 => ?_)
  obtain ⟨Fkq1, Ckq1⟩ := hkq1
  have kF2 := zFr.tr zFr.rf (P := zXr x) Fkq1 (fun q hq => hq)
  obtain ⟨K3, lf3, xo3, xA3, xK3, wK3, xS3, xH3, xJ3, xT3, xL3, lL3⟩ := id Ckq1
  obtain ⟨hj3, jr3, jk3, jc3, jo3⟩ := id xJ3
  refine zr_aload_n dX9_cutLast_13 rfl ?_
  refine zr_getfield dX9_cutLast_14 fX9_20 xo3 rfl (by decide) ?_
  obtain ⟨wr4, rr4, mr4, tr4, ar4, fr4, ca4, cb4, cc4, cd4, ce4, cf4, cw4⟩ := id xA3
  refine zr_getfield dX9_cutLast_17 fX9_112 ca4 rfl (by decide) ?_
  refine zr_iload_n dX9_cutLast_20 rfl ?_
  refine zr_aaload6 (b := (x + 2 + 6 + 2 * i)) dX9_cutLast_21 cb4 (vp_in_nI (n := i) (by omega) (by omega)) (by rw [nI_clamp (by omega)]; exact (cw4 i (by omega)).1) ?_
  refine zr_callVi [] dX9_cutLast_22 vX9_127 (qW_removeLast hX (i := i)  xA3 hA (by omega) (by omega)) (zDA.wobj xA3 (by omega)) (by decide) (by decide) (by decide) rfl rfl (Nat.le_of_ble_eq_true rfl) (by decide) rfl (fun kr5 s_kr5 h_kr5 => ?_)
  obtain ⟨e_kr5, F_kr5, r0_kr5⟩ := h_kr5
  have kh6 : s_kr5.1 x = .inr (7, [.ref ((x + 1)), .ref ((x + 2)), .ref ((x + 24)), .ref ((x + 31)), .ref ((x + 53)), .ref ((x + 75)), .ref ((x + 253)), .ref ((x + 255)), .ref ((x + 260)), .int (nI ll), .int hs, .int kf, .int ld, .int dt, .int dc]) := zFr.get F_kr5 (by (try simp only [zIn]); omega) xo3
  have kh7 : s_kr5.1 (x + 1) = .inr (3, [.ref ((x + 2)), .ref ((x + 24)), .ref ((x + 27)), .ref ((x + 29))]) := zFr.get F_kr5 (by (try simp only [zIn]); omega) hj3
  have kh8 : s_kr5.1 (x + 260) = .inl (1, 400, .inl lf3) := zFr.get F_kr5 (by (try simp only [zIn]); omega) xL3
  have kR9 : zDA (x + 31) K3 s_kr5 := zDA.fr xK3 F_kr5 (by intro q h1 h2 h3; (try simp only [zIn, zJf] at h3); omega)
  have kR10 : zDA (x + 53) S s_kr5 := zDA.fr xS3 F_kr5 (by intro q h1 h2 h3; (try simp only [zIn, zJf] at h3); omega)
  have kR11 : zHi (x + 75) (min (m + 1) 8) (zPu A U) s_kr5 := zHi.fr xH3 F_kr5 (by intro q h1 h2 h3; (try simp only [zIn, zJf] at h3); omega)
  have kR12 : zSk (x + 255) n T s_kr5 := zSk.fr xT3 F_kr5 (by intro q h1 h2 h3; (try simp only [zIn, zJf] at h3); omega)
  have kR13 : zRx (x + 24) s_kr5 := zRx.fr jr3 F_kr5 (by intro q h1 h2 h3; (try simp only [zIn, zJf] at h3); omega)
  have kR14 : zCu (x + 253) s_kr5 := zCu.fr jk3 F_kr5 (by intro q h1 h2 h3; (try simp only [zIn, zJf] at h3); omega)
  have kR15 : zCu (x + 27) s_kr5 := zCu.fr jc3 F_kr5 (by intro q h1 h2 h3; (try simp only [zIn, zJf] at h3); omega)
  have kR16 : zCu (x + 29) s_kr5 := zCu.fr jo3 F_kr5 (by intro q h1 h2 h3; (try simp only [zIn, zJf] at h3); omega)
  have kF17 := zFr.tr kF2 F_kr5 (by intro q hq; (try simp only [zIn, zJf, zXr] at hq); unfold zXr; omega)
  obtain rfl := e_kr5.symm
  refine zr_pSi [] dX9_cutLast_25 vX9_130 (qX9_characterOf hX s_kr5 ((kL A i (kN A i - 1)))) (by decide) (by decide) (by decide) rfl rfl (Nat.le_of_ble_eq_true rfl) rfl ?_
  exact zr_ireturn dX9_cutLast_28 rfl (zchr_nar _) (⟨_, rfl, rfl, kF17, ⟨_, _, kh6, r0_kr5, kR9, wK3, kR10, kR11, ⟨kh7, kR13, kR14, kR15, kR16⟩, kR12, kh8, lL3⟩⟩)

set_option maxHeartbeats 400000 in
set_option maxRecDepth 100000 in
theorem qX9_cutLastD {X : zX} (hX : X.1.stackTraces = false) {σ : zS} {x : Nat} {A S : zDk} {m : Nat} {U : Nat → zDk} {n : Nat} {T : Nat → Int32} {ll : Nat} {ln : Nat → Int32} {hs kf ld dt dc : Int32} {i : Nat} (hC : zKt x A S m U n T ll ln hs kf ld dt dc σ) (hA : zDw A) (hQ : ∀ i j : Nat, i < 7 → j < 7 → zQ X i = zQ X j → i = j) (hi : i < kC A) (hno : ¬ zOb A 2 i = 0) (hN : σ.2 = none) : zMet X mX9_cutLast yX9_cutLast 8 1 6 [.ref x, .int (nI i)] σ (fun o s => o = .inr "java/lang/UnsupportedOperationException" ∧ zFr σ s (zXr x) ∧ zKt x A S m U n T ll ln hs kf (zOb A 2 i) (zDt A 2 i (zOb A 2 i)) 0 s) := by
  refine zMet_of (ls := [some (.ref x), some (.int (nI i))]) rfl (by decide +kernel) rfl (fun h => by cases h) hX (Nat.le_of_ble_eq_true rfl) rfl ?_
  obtain ⟨K, lf, xo, xA, xK, wK, xS, xH, xJ, xT, xL, lL⟩ := id hC
  obtain ⟨hj, jr, jk, jc, jo⟩ := id xJ
  obtain ⟨hC8, hP8, hW⟩ := id hA
  refine zr_aload_n dX9_cutLast_0 rfl ?_
  refine zr_iload_n dX9_cutLast_1 rfl ?_
  refine zr_callVv [] dX9_cutLast_2 vX9_94 (qX9_requireCase hX (i := i) hC hA (by omega)) xo (by decide) (by decide) (by decide) rfl rfl (Nat.le_of_ble_eq_true rfl) (by decide) rfl (fun s_ h_ => ?_)
  rw [h_]; clear h_
  refine zr_aload_n dX9_cutLast_5 rfl ?_
  refine zr_enum (i := 2) dX9_cutLast_6 (by decide) rfl fX9_124 ?_
  refine zr_iload_n dX9_cutLast_9 rfl ?_
  exact zr_callV (rest := []) dX9_cutLast_10 vX9_86 (qX9_admitX hX (c := 2) (k := i) hC hA hQ (by decide) (by omega) (Or.inr hi) hno hN) (by decide) (by decide) (by decide) rfl rfl (Nat.le_of_ble_eq_true rfl) xo (by decide) rfl (fun v s h => by cases h.1) (fun E s h => h)

set_option maxHeartbeats 400000 in
set_option maxRecDepth 100000 in
theorem qX9_cutLastX {X : zX} (hX : X.1.stackTraces = false) {σ : zS} {x : Nat} {A S : zDk} {m : Nat} {U : Nat → zDk} {n : Nat} {T : Nat → Int32} {ll : Nat} {ln : Nat → Int32} {hs kf ld dt dc : Int32} {p : Int32} (hC : zKt x A S m U n T ll ln hs kf ld dt dc σ) (hA : zDw A) (hno : ¬ (¬ p < 0 ∧ p < nI (kC A))) (hN : σ.2 = none) : zMet X mX9_cutLast yX9_cutLast 7 1 6 [.ref x, .int p] σ (fun o s => o = .inr "java/lang/IndexOutOfBoundsException" ∧ s = σ) := by
  refine zMet_of (ls := [some (.ref x), some (.int p)]) rfl (by decide +kernel) rfl (fun h => by cases h) hX (Nat.le_of_ble_eq_true rfl) rfl ?_
  obtain ⟨K, lf, xo, xA, xK, wK, xS, xH, xJ, xT, xL, lL⟩ := id hC
  obtain ⟨hj, jr, jk, jc, jo⟩ := id xJ
  obtain ⟨hC8, hP8, hW⟩ := id hA
  refine zr_aload_n dX9_cutLast_0 rfl ?_
  refine zr_iload_n dX9_cutLast_1 rfl ?_
  exact zr_callV (rest := []) dX9_cutLast_2 vX9_94 (qX9_requireCaseX hX (p := p) hC hA hno hN) (by decide) (by decide) (by decide) rfl rfl (Nat.le_of_ble_eq_true rfl) xo (by decide) rfl (fun v s h => by cases h.1) (fun E s h => h)

set_option maxHeartbeats 400000 in
set_option maxRecDepth 100000 in
theorem qX9_cancel {X : zX} (hX : X.1.stackTraces = false) {σ : zS} {x : Nat} {A S : zDk} {m : Nat} {U : Nat → zDk} {n : Nat} {T : Nat → Int32} {ll : Nat} {ln : Nat → Int32} {hs kf ld dt dc : Int32} {i : Nat} (hC : zKt x A S m U n T ll ln hs kf ld dt dc σ) (hA : zDw A) (hQ : ∀ i j : Nat, i < 7 → j < 7 → zQ X i = zQ X j → i = j) (hi : i < kC A) (hob : zOb A 3 i = 0) : zMet X mX9_cancel yX9_cancel 9 0 0 [.ref x, .int (nI i)] σ (zI (fun y_ s => y_ = nI (kN A i - (zRP (kL A i) (kN A i)).1) ∧ zFr σ s (zXr x) ∧ zKt x (aWord A i (zRP (kL A i) (kN A i)).1 (zRP (kL A i) (kN A i)).2) S (min (m + 1) 8) (zPu A U) n T ll ln hs kf ld dt dc s)) := by
  refine zMet_of (ls := [some (.ref x), some (.int (nI i))]) rfl (by decide +kernel) rfl (fun h => by cases h) hX (Nat.le_of_ble_eq_true rfl) rfl ?_
  obtain ⟨K, lf, xo, xA, xK, wK, xS, xH, xJ, xT, xL, lL⟩ := id hC
  obtain ⟨hj, jr, jk, jc, jo⟩ := id xJ
  obtain ⟨hC8, hP8, hW⟩ := id hA
  obtain ⟨a0, a1, a2, a3, a4, a5, a6⟩ := zOb_ok hob (by decide)
  refine zr_aload_n dX9_cancel_0 rfl ?_
  refine zr_iload_n dX9_cancel_1 rfl ?_
  refine zr_callVv [] dX9_cancel_2 vX9_94 (qX9_requireCase hX (i := i) hC hA (by omega)) xo (by decide) (by decide) (by decide) rfl rfl (Nat.le_of_ble_eq_true rfl) (by decide) rfl (fun s_ h_ => ?_)
  rw [h_]; clear h_
  refine zr_aload_n dX9_cancel_5 rfl ?_
  refine zr_enum (i := 3) dX9_cancel_6 (by decide) rfl fX9_134 ?_
  refine zr_iload_n dX9_cancel_9 rfl ?_
  refine zr_callVv [] dX9_cancel_10 vX9_86 (qX9_admit hX (c := 3) (k := i) hC hA hQ (by decide) (by omega) hob) xo (by decide) (by decide) (by decide) rfl rfl (Nat.le_of_ble_eq_true rfl) (by decide) rfl (fun skq1 hkq1 => ?_)
  obtain ⟨Fkq1, Ckq1⟩ := hkq1
  have kF2 := zFr.tr zFr.rf (P := zXr x) Fkq1 (fun q hq => hq)
  obtain ⟨K3, lf3, xo3, xA3, xK3, wK3, xS3, xH3, xJ3, xT3, xL3, lL3⟩ := id Ckq1
  obtain ⟨hj3, jr3, jk3, jc3, jo3⟩ := id xJ3
  refine zr_aload_n dX9_cancel_13 rfl ?_
  refine zr_getfield dX9_cancel_14 fX9_20 xo3 rfl (by decide) ?_
  obtain ⟨wr4, rr4, mr4, tr4, ar4, fr4, ca4, cb4, cc4, cd4, ce4, cf4, cw4⟩ := id xA3
  refine zr_getfield dX9_cancel_17 fX9_112 ca4 rfl (by decide) ?_
  refine zr_iload_n dX9_cancel_20 rfl ?_
  refine zr_aaload6 (b := (x + 2 + 6 + 2 * i)) dX9_cancel_21 cb4 (vp_in_nI (n := i) (by omega) (by omega)) (by rw [nI_clamp (by omega)]; exact (cw4 i (by omega)).1) ?_
  refine zr_callVi [] dX9_cancel_22 vX9_137 (qW_removePairs hX (i := i)  xA3 hA (by omega) ) (zDA.wobj xA3 (by omega)) (by decide) (by decide) (by decide) rfl rfl (Nat.le_of_ble_eq_true rfl) (by decide) rfl (fun kr5 s_kr5 h_kr5 => ?_)
  obtain ⟨e_kr5, F_kr5, r0_kr5⟩ := h_kr5
  have kh6 : s_kr5.1 x = .inr (7, [.ref ((x + 1)), .ref ((x + 2)), .ref ((x + 24)), .ref ((x + 31)), .ref ((x + 53)), .ref ((x + 75)), .ref ((x + 253)), .ref ((x + 255)), .ref ((x + 260)), .int (nI ll), .int hs, .int kf, .int ld, .int dt, .int dc]) := zFr.get F_kr5 (by (try simp only [zIn]); omega) xo3
  have kh7 : s_kr5.1 (x + 1) = .inr (3, [.ref ((x + 2)), .ref ((x + 24)), .ref ((x + 27)), .ref ((x + 29))]) := zFr.get F_kr5 (by (try simp only [zIn]); omega) hj3
  have kh8 : s_kr5.1 (x + 260) = .inl (1, 400, .inl lf3) := zFr.get F_kr5 (by (try simp only [zIn]); omega) xL3
  have kR9 : zDA (x + 31) K3 s_kr5 := zDA.fr xK3 F_kr5 (by intro q h1 h2 h3; (try simp only [zIn, zJf] at h3); omega)
  have kR10 : zDA (x + 53) S s_kr5 := zDA.fr xS3 F_kr5 (by intro q h1 h2 h3; (try simp only [zIn, zJf] at h3); omega)
  have kR11 : zHi (x + 75) (min (m + 1) 8) (zPu A U) s_kr5 := zHi.fr xH3 F_kr5 (by intro q h1 h2 h3; (try simp only [zIn, zJf] at h3); omega)
  have kR12 : zSk (x + 255) n T s_kr5 := zSk.fr xT3 F_kr5 (by intro q h1 h2 h3; (try simp only [zIn, zJf] at h3); omega)
  have kR13 : zRx (x + 24) s_kr5 := zRx.fr jr3 F_kr5 (by intro q h1 h2 h3; (try simp only [zIn, zJf] at h3); omega)
  have kR14 : zCu (x + 253) s_kr5 := zCu.fr jk3 F_kr5 (by intro q h1 h2 h3; (try simp only [zIn, zJf] at h3); omega)
  have kR15 : zCu (x + 27) s_kr5 := zCu.fr jc3 F_kr5 (by intro q h1 h2 h3; (try simp only [zIn, zJf] at h3); omega)
  have kR16 : zCu (x + 29) s_kr5 := zCu.fr jo3 F_kr5 (by intro q h1 h2 h3; (try simp only [zIn, zJf] at h3); omega)
  have kF17 := zFr.tr kF2 F_kr5 (by intro q hq; (try simp only [zIn, zJf, zXr] at hq); unfold zXr; omega)
  obtain rfl := e_kr5.symm
  exact zr_ireturn dX9_cancel_25 rfl (rfl) (⟨_, rfl, rfl, kF17, ⟨_, _, kh6, r0_kr5, kR9, wK3, kR10, kR11, ⟨kh7, kR13, kR14, kR15, kR16⟩, kR12, kh8, lL3⟩⟩)

set_option maxHeartbeats 400000 in
set_option maxRecDepth 100000 in
theorem qX9_cancelD {X : zX} (hX : X.1.stackTraces = false) {σ : zS} {x : Nat} {A S : zDk} {m : Nat} {U : Nat → zDk} {n : Nat} {T : Nat → Int32} {ll : Nat} {ln : Nat → Int32} {hs kf ld dt dc : Int32} {i : Nat} (hC : zKt x A S m U n T ll ln hs kf ld dt dc σ) (hA : zDw A) (hQ : ∀ i j : Nat, i < 7 → j < 7 → zQ X i = zQ X j → i = j) (hi : i < kC A) (hno : ¬ zOb A 3 i = 0) (hN : σ.2 = none) : zMet X mX9_cancel yX9_cancel 8 1 6 [.ref x, .int (nI i)] σ (fun o s => o = .inr "java/lang/UnsupportedOperationException" ∧ zFr σ s (zXr x) ∧ zKt x A S m U n T ll ln hs kf (zOb A 3 i) (zDt A 3 i (zOb A 3 i)) 0 s) := by
  refine zMet_of (ls := [some (.ref x), some (.int (nI i))]) rfl (by decide +kernel) rfl (fun h => by cases h) hX (Nat.le_of_ble_eq_true rfl) rfl ?_
  obtain ⟨K, lf, xo, xA, xK, wK, xS, xH, xJ, xT, xL, lL⟩ := id hC
  obtain ⟨hj, jr, jk, jc, jo⟩ := id xJ
  obtain ⟨hC8, hP8, hW⟩ := id hA
  refine zr_aload_n dX9_cancel_0 rfl ?_
  refine zr_iload_n dX9_cancel_1 rfl ?_
  refine zr_callVv [] dX9_cancel_2 vX9_94 (qX9_requireCase hX (i := i) hC hA (by omega)) xo (by decide) (by decide) (by decide) rfl rfl (Nat.le_of_ble_eq_true rfl) (by decide) rfl (fun s_ h_ => ?_)
  rw [h_]; clear h_
  refine zr_aload_n dX9_cancel_5 rfl ?_
  refine zr_enum (i := 3) dX9_cancel_6 (by decide) rfl fX9_134 ?_
  refine zr_iload_n dX9_cancel_9 rfl ?_
  exact zr_callV (rest := []) dX9_cancel_10 vX9_86 (qX9_admitX hX (c := 3) (k := i) hC hA hQ (by decide) (by omega) (Or.inr hi) hno hN) (by decide) (by decide) (by decide) rfl rfl (Nat.le_of_ble_eq_true rfl) xo (by decide) rfl (fun v s h => by cases h.1) (fun E s h => h)

set_option maxHeartbeats 400000 in
set_option maxRecDepth 100000 in
theorem qX9_cancelX {X : zX} (hX : X.1.stackTraces = false) {σ : zS} {x : Nat} {A S : zDk} {m : Nat} {U : Nat → zDk} {n : Nat} {T : Nat → Int32} {ll : Nat} {ln : Nat → Int32} {hs kf ld dt dc : Int32} {p : Int32} (hC : zKt x A S m U n T ll ln hs kf ld dt dc σ) (hA : zDw A) (hno : ¬ (¬ p < 0 ∧ p < nI (kC A))) (hN : σ.2 = none) : zMet X mX9_cancel yX9_cancel 7 1 6 [.ref x, .int p] σ (fun o s => o = .inr "java/lang/IndexOutOfBoundsException" ∧ s = σ) := by
  refine zMet_of (ls := [some (.ref x), some (.int p)]) rfl (by decide +kernel) rfl (fun h => by cases h) hX (Nat.le_of_ble_eq_true rfl) rfl ?_
  obtain ⟨K, lf, xo, xA, xK, wK, xS, xH, xJ, xT, xL, lL⟩ := id hC
  obtain ⟨hj, jr, jk, jc, jo⟩ := id xJ
  obtain ⟨hC8, hP8, hW⟩ := id hA
  refine zr_aload_n dX9_cancel_0 rfl ?_
  refine zr_iload_n dX9_cancel_1 rfl ?_
  exact zr_callV (rest := []) dX9_cancel_2 vX9_94 (qX9_requireCaseX hX (p := p) hC hA hno hN) (by decide) (by decide) (by decide) rfl rfl (Nat.le_of_ble_eq_true rfl) xo (by decide) rfl (fun v s h => by cases h.1) (fun E s h => h)

set_option maxHeartbeats 400000 in
set_option maxRecDepth 100000 in
theorem qX9_relax {X : zX} (hX : X.1.stackTraces = false) {σ : zS} {x : Nat} {A S : zDk} {m : Nat} {U : Nat → zDk} {n : Nat} {T : Nat → Int32} {ll : Nat} {ln : Nat → Int32} {hs kf ld dt dc : Int32} {i q : Nat} {W : List Int32} (hC : zKt x A S m U n T ll ln hs kf ld dt dc σ) (hA : zDw A) (hQ : ∀ i j : Nat, i < 7 → j < 7 → zQ X i = zQ X j → i = j) (hi : i < kC A) (hO : zRn 2000 [] (zWd A i) = some (q, W)) (hL : W.length ≤ 16) (hob : zOb A 4 i = 0) : zMet X mX9_relax yX9_relax 9 0 0 [.ref x, .int (nI i)] σ (zI (fun y_ s => y_ = nI (2000 - q) ∧ zFr σ s (zXr x) ∧ zKt x (aWord A i W.length (wv W)) S (min (m + 1) 8) (zPu A U) n T ll ln hs kf ld dt dc s)) := by
  refine zMet_of (ls := [some (.ref x), some (.int (nI i))]) rfl (by decide +kernel) rfl (fun h => by cases h) hX (Nat.le_of_ble_eq_true rfl) rfl ?_
  obtain ⟨K, lf, xo, xA, xK, wK, xS, xH, xJ, xT, xL, lL⟩ := id hC
  obtain ⟨hj, jr, jk, jc, jo⟩ := id xJ
  obtain ⟨hC8, hP8, hW⟩ := id hA
  obtain ⟨a0, a1, a2, a3, a4, a5, a6⟩ := zOb_ok hob (by decide)
  refine zr_aload_n dX9_relax_0 rfl ?_
  refine zr_iload_n dX9_relax_1 rfl ?_
  refine zr_callVv [] dX9_relax_2 vX9_94 (qX9_requireCase hX (i := i) hC hA (by omega)) xo (by decide) (by decide) (by decide) rfl rfl (Nat.le_of_ble_eq_true rfl) (by decide) rfl (fun s_ h_ => ?_)
  rw [h_]; clear h_
  refine zr_aload_n dX9_relax_5 rfl ?_
  refine zr_enum (i := 4) dX9_relax_6 (by decide) rfl fX9_140 ?_
  refine zr_iload_n dX9_relax_9 rfl ?_
  refine zr_callVv [] dX9_relax_10 vX9_86 (qX9_admit hX (c := 4) (k := i) hC hA hQ (by decide) (by omega) hob) xo (by decide) (by decide) (by decide) rfl rfl (Nat.le_of_ble_eq_true rfl) (by decide) rfl (fun skq1 hkq1 => ?_)
  obtain ⟨Fkq1, Ckq1⟩ := hkq1
  have kF2 := zFr.tr zFr.rf (P := zXr x) Fkq1 (fun q hq => hq)
  obtain ⟨K3, lf3, xo3, xA3, xK3, wK3, xS3, xH3, xJ3, xT3, xL3, lL3⟩ := id Ckq1
  obtain ⟨hj3, jr3, jk3, jc3, jo3⟩ := id xJ3
  refine zr_aload_n dX9_relax_13 rfl ?_
  refine zr_getfield dX9_relax_14 fX9_12 xo3 rfl (by decide) ?_
  refine zr_iload_n dX9_relax_17 rfl ?_
  have kJ4 : zJd x skq1 := ⟨hj3, jr3, jk3, jc3, jo3⟩
  refine zr_callVi [] dX9_relax_18 vX9_143 (qX5_replaceByRelaxed hX (k := i) kJ4 xA3 hA (by omega) hO hL) (zJd.obj kJ4) (by decide) (by decide) (by decide) rfl rfl (Nat.le_of_ble_eq_true rfl) (by decide) rfl (fun kr5 s_kr5 h_kr5 => ?_)
  obtain ⟨e_kr5, F_kr5, r0_kr5, r1_kr5⟩ := h_kr5
  have kh6 : s_kr5.1 x = .inr (7, [.ref ((x + 1)), .ref ((x + 2)), .ref ((x + 24)), .ref ((x + 31)), .ref ((x + 53)), .ref ((x + 75)), .ref ((x + 253)), .ref ((x + 255)), .ref ((x + 260)), .int (nI ll), .int hs, .int kf, .int ld, .int dt, .int dc]) := zFr.get F_kr5 (by simp only [zIn, zJf]; omega) xo3
  have kh7 : s_kr5.1 (x + 260) = .inl (1, 400, .inl lf3) := zFr.get F_kr5 (by simp only [zIn, zJf]; omega) xL3
  have kR8 : zDA (x + 31) K3 s_kr5 := zDA.fr xK3 F_kr5 (by intro q h1 h2 h3; (try simp only [zIn, zJf] at h3); omega)
  have kR9 : zDA (x + 53) S s_kr5 := zDA.fr xS3 F_kr5 (by intro q h1 h2 h3; (try simp only [zIn, zJf] at h3); omega)
  have kR10 : zHi (x + 75) (min (m + 1) 8) (zPu A U) s_kr5 := zHi.fr xH3 F_kr5 (by intro q h1 h2 h3; (try simp only [zIn, zJf] at h3); omega)
  have kR11 : zSk (x + 255) n T s_kr5 := zSk.fr xT3 F_kr5 (by intro q h1 h2 h3; (try simp only [zIn, zJf] at h3); omega)
  have kF12 := zFr.tr kF2 F_kr5 (by intro q hq; (try simp only [zIn, zJf, zXr] at hq); unfold zXr; omega)
  obtain rfl := e_kr5.symm
  obtain ⟨hj13, jr13, jk13, jc13, jo13⟩ := id r0_kr5
  exact zr_ireturn dX9_relax_21 rfl (rfl) (⟨_, rfl, rfl, kF12, ⟨_, _, kh6, r1_kr5, kR8, wK3, kR9, kR10, ⟨hj13, jr13, jk13, jc13, jo13⟩, kR11, kh7, lL3⟩⟩)

set_option maxHeartbeats 400000 in
set_option maxRecDepth 100000 in
theorem qX9_relaxD {X : zX} (hX : X.1.stackTraces = false) {σ : zS} {x : Nat} {A S : zDk} {m : Nat} {U : Nat → zDk} {n : Nat} {T : Nat → Int32} {ll : Nat} {ln : Nat → Int32} {hs kf ld dt dc : Int32} {i : Nat} (hC : zKt x A S m U n T ll ln hs kf ld dt dc σ) (hA : zDw A) (hQ : ∀ i j : Nat, i < 7 → j < 7 → zQ X i = zQ X j → i = j) (hi : i < kC A) (hno : ¬ zOb A 4 i = 0) (hN : σ.2 = none) : zMet X mX9_relax yX9_relax 8 1 6 [.ref x, .int (nI i)] σ (fun o s => o = .inr "java/lang/UnsupportedOperationException" ∧ zFr σ s (zXr x) ∧ zKt x A S m U n T ll ln hs kf (zOb A 4 i) (zDt A 4 i (zOb A 4 i)) 0 s) := by
  refine zMet_of (ls := [some (.ref x), some (.int (nI i))]) rfl (by decide +kernel) rfl (fun h => by cases h) hX (Nat.le_of_ble_eq_true rfl) rfl ?_
  obtain ⟨K, lf, xo, xA, xK, wK, xS, xH, xJ, xT, xL, lL⟩ := id hC
  obtain ⟨hj, jr, jk, jc, jo⟩ := id xJ
  obtain ⟨hC8, hP8, hW⟩ := id hA
  refine zr_aload_n dX9_relax_0 rfl ?_
  refine zr_iload_n dX9_relax_1 rfl ?_
  refine zr_callVv [] dX9_relax_2 vX9_94 (qX9_requireCase hX (i := i) hC hA (by omega)) xo (by decide) (by decide) (by decide) rfl rfl (Nat.le_of_ble_eq_true rfl) (by decide) rfl (fun s_ h_ => ?_)
  rw [h_]; clear h_
  refine zr_aload_n dX9_relax_5 rfl ?_
  refine zr_enum (i := 4) dX9_relax_6 (by decide) rfl fX9_140 ?_
  refine zr_iload_n dX9_relax_9 rfl ?_
  exact zr_callV (rest := []) dX9_relax_10 vX9_86 (qX9_admitX hX (c := 4) (k := i) hC hA hQ (by decide) (by omega) (Or.inr hi) hno hN) (by decide) (by decide) (by decide) rfl rfl (Nat.le_of_ble_eq_true rfl) xo (by decide) rfl (fun v s h => by cases h.1) (fun E s h => h)

set_option maxHeartbeats 400000 in
set_option maxRecDepth 100000 in
theorem qX9_relaxX {X : zX} (hX : X.1.stackTraces = false) {σ : zS} {x : Nat} {A S : zDk} {m : Nat} {U : Nat → zDk} {n : Nat} {T : Nat → Int32} {ll : Nat} {ln : Nat → Int32} {hs kf ld dt dc : Int32} {p : Int32} (hC : zKt x A S m U n T ll ln hs kf ld dt dc σ) (hA : zDw A) (hno : ¬ (¬ p < 0 ∧ p < nI (kC A))) (hN : σ.2 = none) : zMet X mX9_relax yX9_relax 7 1 6 [.ref x, .int p] σ (fun o s => o = .inr "java/lang/IndexOutOfBoundsException" ∧ s = σ) := by
  refine zMet_of (ls := [some (.ref x), some (.int p)]) rfl (by decide +kernel) rfl (fun h => by cases h) hX (Nat.le_of_ble_eq_true rfl) rfl ?_
  obtain ⟨K, lf, xo, xA, xK, wK, xS, xH, xJ, xT, xL, lL⟩ := id hC
  obtain ⟨hj, jr, jk, jc, jo⟩ := id xJ
  obtain ⟨hC8, hP8, hW⟩ := id hA
  refine zr_aload_n dX9_relax_0 rfl ?_
  refine zr_iload_n dX9_relax_1 rfl ?_
  exact zr_callV (rest := []) dX9_relax_2 vX9_94 (qX9_requireCaseX hX (p := p) hC hA hno hN) (by decide) (by decide) (by decide) rfl rfl (Nat.le_of_ble_eq_true rfl) xo (by decide) rfl (fun v s h => by cases h.1) (fun E s h => h)

set_option maxHeartbeats 400000 in
set_option maxRecDepth 100000 in
theorem qX9_decide {X : zX} (hX : X.1.stackTraces = false) {σ : zS} {x : Nat} {A S : zDk} {m : Nat} {U : Nat → zDk} {n : Nat} {T : Nat → Int32} {ll : Nat} {ln : Nat → Int32} {hs kf ld dt dc : Int32} {i : Nat} (hC : zKt x A S m U n T ll ln hs kf ld dt dc σ) (hA : zDw A) (hQ : ∀ i j : Nat, i < 7 → j < 7 → zQ X i = zQ X j → i = j) (hi : i < kC A) (hP7 : kP A < 8) (hV : zDw (aVer A i)) (hob : zOb A 5 i = 0) : zMet X mX9_decide yX9_decide 9 0 0 [.ref x, .int (nI i)] σ (zI (fun y_ s => y_ = zvt (aVer A i) i ∧ zFr σ s (zXr x) ∧ zKt x (aVer A i) S (min (m + 1) 8) (zPu A U) n T ll ln hs kf ld dt dc s)) := by
  refine zMet_of (ls := [some (.ref x), some (.int (nI i))]) rfl (by decide +kernel) rfl (fun h => by cases h) hX (Nat.le_of_ble_eq_true rfl) rfl ?_
  obtain ⟨K, lf, xo, xA, xK, wK, xS, xH, xJ, xT, xL, lL⟩ := id hC
  obtain ⟨hj, jr, jk, jc, jo⟩ := id xJ
  obtain ⟨hC8, hP8, hW⟩ := id hA
  obtain ⟨a0, a1, a2, a3, a4, a5, a6⟩ := zOb_ok hob (by decide)
  refine zr_aload_n dX9_decide_0 rfl ?_
  refine zr_iload_n dX9_decide_1 rfl ?_
  refine zr_callVv [] dX9_decide_2 vX9_94 (qX9_requireCase hX (i := i) hC hA (by omega)) xo (by decide) (by decide) (by decide) rfl rfl (Nat.le_of_ble_eq_true rfl) (by decide) rfl (fun s_ h_ => ?_)
  rw [h_]; clear h_
  refine zr_aload_n dX9_decide_5 rfl ?_
  refine zr_enum (i := 5) dX9_decide_6 (by decide) rfl fX9_222 ?_
  refine zr_iload_n dX9_decide_9 rfl ?_
  refine zr_callVv [] dX9_decide_10 vX9_86 (qX9_admit hX (c := 5) (k := i) hC hA hQ (by decide) (by omega) hob) xo (by decide) (by decide) (by decide) rfl rfl (Nat.le_of_ble_eq_true rfl) (by decide) rfl (fun skq1 hkq1 => ?_)
  obtain ⟨Fkq1, Ckq1⟩ := hkq1
  have kF2 := zFr.tr zFr.rf (P := zXr x) Fkq1 (fun q hq => hq)
  obtain ⟨K3, lf3, xo3, xA3, xK3, wK3, xS3, xH3, xJ3, xT3, xL3, lL3⟩ := id Ckq1
  obtain ⟨hj3, jr3, jk3, jc3, jo3⟩ := id xJ3
  refine zr_aload_n dX9_decide_13 rfl ?_
  refine zr_getfield dX9_decide_14 fX9_12 xo3 rfl (by decide) ?_
  refine zr_iload_n dX9_decide_17 rfl ?_
  have kJ4 : zJd x skq1 := ⟨hj3, jr3, jk3, jc3, jo3⟩
  refine zr_callVv [] dX9_decide_18 vX9_225 (qX5_giveVerdict hX (k := i) kJ4 xA3 hA (by omega) hP7) (zJd.obj kJ4) (by decide) (by decide) (by decide) rfl rfl (Nat.le_of_ble_eq_true rfl) (by decide) rfl (fun s_kr5 h_kr5 => ?_)
  obtain ⟨F_kr5, r0_kr5, r1_kr5⟩ := h_kr5
  have kh6 : s_kr5.1 x = .inr (7, [.ref ((x + 1)), .ref ((x + 2)), .ref ((x + 24)), .ref ((x + 31)), .ref ((x + 53)), .ref ((x + 75)), .ref ((x + 253)), .ref ((x + 255)), .ref ((x + 260)), .int (nI ll), .int hs, .int kf, .int ld, .int dt, .int dc]) := zFr.get F_kr5 (by simp only [zIn, zJf]; omega) xo3
  have kh7 : s_kr5.1 (x + 260) = .inl (1, 400, .inl lf3) := zFr.get F_kr5 (by simp only [zIn, zJf]; omega) xL3
  have kR8 : zDA (x + 31) K3 s_kr5 := zDA.fr xK3 F_kr5 (by intro q h1 h2 h3; (try simp only [zIn, zJf] at h3); omega)
  have kR9 : zDA (x + 53) S s_kr5 := zDA.fr xS3 F_kr5 (by intro q h1 h2 h3; (try simp only [zIn, zJf] at h3); omega)
  have kR10 : zHi (x + 75) (min (m + 1) 8) (zPu A U) s_kr5 := zHi.fr xH3 F_kr5 (by intro q h1 h2 h3; (try simp only [zIn, zJf] at h3); omega)
  have kR11 : zSk (x + 255) n T s_kr5 := zSk.fr xT3 F_kr5 (by intro q h1 h2 h3; (try simp only [zIn, zJf] at h3); omega)
  have kF12 := zFr.tr kF2 F_kr5 (by intro q hq; (try simp only [zIn, zJf, zXr] at hq); unfold zXr; omega)
  obtain ⟨hj13, jr13, jk13, jc13, jo13⟩ := id r0_kr5
  refine zr_aload_n dX9_decide_21 rfl ?_
  refine zr_getfield dX9_decide_22 fX9_20 kh6 rfl (by decide) ?_
  refine zr_iload_n dX9_decide_25 rfl ?_
  refine zr_pVi [] dX9_decide_26 vX9_228 (qX3_hasVerdictTangled hX (i := i) r1_kr5 hV (by omega)) (zDA.obj r1_kr5) (by decide) (by decide) (by decide) rfl rfl (Nat.le_of_ble_eq_true rfl) (by decide) rfl ?_
  exact zr_ireturn dX9_decide_29 rfl (nar_zvt _ _) (⟨_, rfl, rfl, kF12, ⟨_, _, kh6, r1_kr5, kR8, wK3, kR9, kR10, ⟨hj13, jr13, jk13, jc13, jo13⟩, kR11, kh7, lL3⟩⟩)

set_option maxHeartbeats 400000 in
set_option maxRecDepth 100000 in
theorem qX9_decideD {X : zX} (hX : X.1.stackTraces = false) {σ : zS} {x : Nat} {A S : zDk} {m : Nat} {U : Nat → zDk} {n : Nat} {T : Nat → Int32} {ll : Nat} {ln : Nat → Int32} {hs kf ld dt dc : Int32} {i : Nat} (hC : zKt x A S m U n T ll ln hs kf ld dt dc σ) (hA : zDw A) (hQ : ∀ i j : Nat, i < 7 → j < 7 → zQ X i = zQ X j → i = j) (hi : i < kC A) (hno : ¬ zOb A 5 i = 0) (hN : σ.2 = none) : zMet X mX9_decide yX9_decide 8 1 6 [.ref x, .int (nI i)] σ (fun o s => o = .inr "java/lang/UnsupportedOperationException" ∧ zFr σ s (zXr x) ∧ zKt x A S m U n T ll ln hs kf (zOb A 5 i) (zDt A 5 i (zOb A 5 i)) 0 s) := by
  refine zMet_of (ls := [some (.ref x), some (.int (nI i))]) rfl (by decide +kernel) rfl (fun h => by cases h) hX (Nat.le_of_ble_eq_true rfl) rfl ?_
  obtain ⟨K, lf, xo, xA, xK, wK, xS, xH, xJ, xT, xL, lL⟩ := id hC
  obtain ⟨hj, jr, jk, jc, jo⟩ := id xJ
  obtain ⟨hC8, hP8, hW⟩ := id hA
  refine zr_aload_n dX9_decide_0 rfl ?_
  refine zr_iload_n dX9_decide_1 rfl ?_
  refine zr_callVv [] dX9_decide_2 vX9_94 (qX9_requireCase hX (i := i) hC hA (by omega)) xo (by decide) (by decide) (by decide) rfl rfl (Nat.le_of_ble_eq_true rfl) (by decide) rfl (fun s_ h_ => ?_)
  rw [h_]; clear h_
  refine zr_aload_n dX9_decide_5 rfl ?_
  refine zr_enum (i := 5) dX9_decide_6 (by decide) rfl fX9_222 ?_
  refine zr_iload_n dX9_decide_9 rfl ?_
  exact zr_callV (rest := []) dX9_decide_10 vX9_86 (qX9_admitX hX (c := 5) (k := i) hC hA hQ (by decide) (by omega) (Or.inr hi) hno hN) (by decide) (by decide) (by decide) rfl rfl (Nat.le_of_ble_eq_true rfl) xo (by decide) rfl (fun v s h => by cases h.1) (fun E s h => h)

set_option maxHeartbeats 400000 in
set_option maxRecDepth 100000 in
theorem qX9_decideX {X : zX} (hX : X.1.stackTraces = false) {σ : zS} {x : Nat} {A S : zDk} {m : Nat} {U : Nat → zDk} {n : Nat} {T : Nat → Int32} {ll : Nat} {ln : Nat → Int32} {hs kf ld dt dc : Int32} {p : Int32} (hC : zKt x A S m U n T ll ln hs kf ld dt dc σ) (hA : zDw A) (hno : ¬ (¬ p < 0 ∧ p < nI (kC A))) (hN : σ.2 = none) : zMet X mX9_decide yX9_decide 7 1 6 [.ref x, .int p] σ (fun o s => o = .inr "java/lang/IndexOutOfBoundsException" ∧ s = σ) := by
  refine zMet_of (ls := [some (.ref x), some (.int p)]) rfl (by decide +kernel) rfl (fun h => by cases h) hX (Nat.le_of_ble_eq_true rfl) rfl ?_
  obtain ⟨K, lf, xo, xA, xK, wK, xS, xH, xJ, xT, xL, lL⟩ := id hC
  obtain ⟨hj, jr, jk, jc, jo⟩ := id xJ
  obtain ⟨hC8, hP8, hW⟩ := id hA
  refine zr_aload_n dX9_decide_0 rfl ?_
  refine zr_iload_n dX9_decide_1 rfl ?_
  exact zr_callV (rest := []) dX9_decide_2 vX9_94 (qX9_requireCaseX hX (p := p) hC hA hno hN) (by decide) (by decide) (by decide) rfl rfl (Nat.le_of_ble_eq_true rfl) xo (by decide) rfl (fun v s h => by cases h.1) (fun E s h => h)

set_option maxHeartbeats 400000 in
set_option maxRecDepth 100000 in
theorem qX9_appeal {X : zX} (hX : X.1.stackTraces = false) {σ : zS} {x : Nat} {A S : zDk} {m : Nat} {U : Nat → zDk} {n : Nat} {T : Nat → Int32} {ll : Nat} {ln : Nat → Int32} {hs kf ld dt dc : Int32} {i p : Nat} (hC : zKt x A S m U n T ll ln hs kf ld dt dc σ) (hA : zDw A) (hQ : ∀ i j : Nat, i < 7 → j < 7 → zQ X i = zQ X j → i = j) (hi : i < kC A) (hp : kR A i = nI p) (hp8 : p < 8) (hob : zOb A 6 i = 0) : zMet X mX9_appeal yX9_appeal 9 0 0 [.ref x, .int (nI i)] σ (zI (fun y_ s => y_ = zRv A p ∧ zFr σ s (zXr x) ∧ zKt x (aRev A p) S (min (m + 1) 8) (zPu A U) n T ll ln hs kf ld dt dc s)) := by
  refine zMet_of (ls := [some (.ref x), some (.int (nI i))]) rfl (by decide +kernel) rfl (fun h => by cases h) hX (Nat.le_of_ble_eq_true rfl) rfl ?_
  obtain ⟨K, lf, xo, xA, xK, wK, xS, xH, xJ, xT, xL, lL⟩ := id hC
  obtain ⟨hj, jr, jk, jc, jo⟩ := id xJ
  obtain ⟨hC8, hP8, hW⟩ := id hA
  obtain ⟨a0, a1, a2, a3, a4, a5, a6⟩ := zOb_ok hob (by decide)
  refine zr_aload_n dX9_appeal_0 rfl ?_
  refine zr_iload_n dX9_appeal_1 rfl ?_
  refine zr_callVv [] dX9_appeal_2 vX9_94 (qX9_requireCase hX (i := i) hC hA (by omega)) xo (by decide) (by decide) (by decide) rfl rfl (Nat.le_of_ble_eq_true rfl) (by decide) rfl (fun s_ h_ => ?_)
  rw [h_]; clear h_
  refine zr_aload_n dX9_appeal_5 rfl ?_
  refine zr_enum (i := 6) dX9_appeal_6 (by decide) rfl fX9_232 ?_
  refine zr_iload_n dX9_appeal_9 rfl ?_
  refine zr_callVv [] dX9_appeal_10 vX9_86 (qX9_admit hX (c := 6) (k := i) hC hA hQ (by decide) (by omega) hob) xo (by decide) (by decide) (by decide) rfl rfl (Nat.le_of_ble_eq_true rfl) (by decide) rfl (fun skq1 hkq1 => ?_)
  obtain ⟨Fkq1, Ckq1⟩ := hkq1
  have kF2 := zFr.tr zFr.rf (P := zXr x) Fkq1 (fun q hq => hq)
  obtain ⟨K3, lf3, xo3, xA3, xK3, wK3, xS3, xH3, xJ3, xT3, xL3, lL3⟩ := id Ckq1
  obtain ⟨hj3, jr3, jk3, jc3, jo3⟩ := id xJ3
  refine zr_aload_n dX9_appeal_13 rfl ?_
  refine zr_getfield dX9_appeal_14 fX9_12 xo3 rfl (by decide) ?_
  refine zr_aload_n dX9_appeal_17 rfl ?_
  refine zr_getfield dX9_appeal_18 fX9_20 xo3 rfl (by decide) ?_
  obtain ⟨wr4, rr4, mr4, tr4, ar4, fr4, ca4, cb4, cc4, cd4, ce4, cf4, cw4⟩ := id xA3
  refine zr_getfield dX9_appeal_21 fX9_235 ca4 rfl (by decide) ?_
  refine zr_iload_n dX9_appeal_24 rfl ?_
  refine zr_iaload dX9_appeal_25 cc4 (vp_in_nI (n := i) (by omega) (by omega)) ?_
  rw [nI_clamp (n := i) (by omega)]
  refine zr_eqi (x' := (kR A i)) (cw4 i (by omega)).2.1.1 ?_
  refine zr_eqi (x' := nI p) (hp) ?_
  have kJ5 : zJd x skq1 := ⟨hj3, jr3, jk3, jc3, jo3⟩
  refine zr_callVi [] dX9_appeal_26 vX9_238 (qX5_reviewPrecedent hX (p := p) kJ5 xA3 hA (by omega)) (zJd.obj kJ5) (by decide) (by decide) (by decide) rfl rfl (Nat.le_of_ble_eq_true rfl) (by decide) rfl (fun kr6 s_kr6 h_kr6 => ?_)
  obtain ⟨e_kr6, F_kr6, r0_kr6, r1_kr6⟩ := h_kr6
  have kh7 : s_kr6.1 x = .inr (7, [.ref ((x + 1)), .ref ((x + 2)), .ref ((x + 24)), .ref ((x + 31)), .ref ((x + 53)), .ref ((x + 75)), .ref ((x + 253)), .ref ((x + 255)), .ref ((x + 260)), .int (nI ll), .int hs, .int kf, .int ld, .int dt, .int dc]) := zFr.get F_kr6 (by simp only [zIn, zJf]; omega) xo3
  have kh8 : s_kr6.1 (x + 260) = .inl (1, 400, .inl lf3) := zFr.get F_kr6 (by simp only [zIn, zJf]; omega) xL3
  have kR9 : zDA (x + 31) K3 s_kr6 := zDA.fr xK3 F_kr6 (by intro q h1 h2 h3; (try simp only [zIn, zJf] at h3); omega)
  have kR10 : zDA (x + 53) S s_kr6 := zDA.fr xS3 F_kr6 (by intro q h1 h2 h3; (try simp only [zIn, zJf] at h3); omega)
  have kR11 : zHi (x + 75) (min (m + 1) 8) (zPu A U) s_kr6 := zHi.fr xH3 F_kr6 (by intro q h1 h2 h3; (try simp only [zIn, zJf] at h3); omega)
  have kR12 : zSk (x + 255) n T s_kr6 := zSk.fr xT3 F_kr6 (by intro q h1 h2 h3; (try simp only [zIn, zJf] at h3); omega)
  have kF13 := zFr.tr kF2 F_kr6 (by intro q hq; (try simp only [zIn, zJf, zXr] at hq); unfold zXr; omega)
  obtain rfl := e_kr6.symm
  obtain ⟨hj14, jr14, jk14, jc14, jo14⟩ := id r0_kr6
  exact zr_ireturn dX9_appeal_29 rfl (rfl) (⟨_, rfl, rfl, kF13, ⟨_, _, kh7, r1_kr6, kR9, wK3, kR10, kR11, ⟨hj14, jr14, jk14, jc14, jo14⟩, kR12, kh8, lL3⟩⟩)

set_option maxHeartbeats 400000 in
set_option maxRecDepth 100000 in
theorem qX9_appealD {X : zX} (hX : X.1.stackTraces = false) {σ : zS} {x : Nat} {A S : zDk} {m : Nat} {U : Nat → zDk} {n : Nat} {T : Nat → Int32} {ll : Nat} {ln : Nat → Int32} {hs kf ld dt dc : Int32} {i : Nat} (hC : zKt x A S m U n T ll ln hs kf ld dt dc σ) (hA : zDw A) (hQ : ∀ i j : Nat, i < 7 → j < 7 → zQ X i = zQ X j → i = j) (hi : i < kC A) (hno : ¬ zOb A 6 i = 0) (hN : σ.2 = none) : zMet X mX9_appeal yX9_appeal 8 1 6 [.ref x, .int (nI i)] σ (fun o s => o = .inr "java/lang/UnsupportedOperationException" ∧ zFr σ s (zXr x) ∧ zKt x A S m U n T ll ln hs kf (zOb A 6 i) (zDt A 6 i (zOb A 6 i)) 0 s) := by
  refine zMet_of (ls := [some (.ref x), some (.int (nI i))]) rfl (by decide +kernel) rfl (fun h => by cases h) hX (Nat.le_of_ble_eq_true rfl) rfl ?_
  obtain ⟨K, lf, xo, xA, xK, wK, xS, xH, xJ, xT, xL, lL⟩ := id hC
  obtain ⟨hj, jr, jk, jc, jo⟩ := id xJ
  obtain ⟨hC8, hP8, hW⟩ := id hA
  refine zr_aload_n dX9_appeal_0 rfl ?_
  refine zr_iload_n dX9_appeal_1 rfl ?_
  refine zr_callVv [] dX9_appeal_2 vX9_94 (qX9_requireCase hX (i := i) hC hA (by omega)) xo (by decide) (by decide) (by decide) rfl rfl (Nat.le_of_ble_eq_true rfl) (by decide) rfl (fun s_ h_ => ?_)
  rw [h_]; clear h_
  refine zr_aload_n dX9_appeal_5 rfl ?_
  refine zr_enum (i := 6) dX9_appeal_6 (by decide) rfl fX9_232 ?_
  refine zr_iload_n dX9_appeal_9 rfl ?_
  exact zr_callV (rest := []) dX9_appeal_10 vX9_86 (qX9_admitX hX (c := 6) (k := i) hC hA hQ (by decide) (by omega) (Or.inr hi) hno hN) (by decide) (by decide) (by decide) rfl rfl (Nat.le_of_ble_eq_true rfl) xo (by decide) rfl (fun v s h => by cases h.1) (fun E s h => h)

set_option maxHeartbeats 400000 in
set_option maxRecDepth 100000 in
theorem qX9_appealX {X : zX} (hX : X.1.stackTraces = false) {σ : zS} {x : Nat} {A S : zDk} {m : Nat} {U : Nat → zDk} {n : Nat} {T : Nat → Int32} {ll : Nat} {ln : Nat → Int32} {hs kf ld dt dc : Int32} {p : Int32} (hC : zKt x A S m U n T ll ln hs kf ld dt dc σ) (hA : zDw A) (hno : ¬ (¬ p < 0 ∧ p < nI (kC A))) (hN : σ.2 = none) : zMet X mX9_appeal yX9_appeal 7 1 6 [.ref x, .int p] σ (fun o s => o = .inr "java/lang/IndexOutOfBoundsException" ∧ s = σ) := by
  refine zMet_of (ls := [some (.ref x), some (.int p)]) rfl (by decide +kernel) rfl (fun h => by cases h) hX (Nat.le_of_ble_eq_true rfl) rfl ?_
  obtain ⟨K, lf, xo, xA, xK, wK, xS, xH, xJ, xT, xL, lL⟩ := id hC
  obtain ⟨hj, jr, jk, jc, jo⟩ := id xJ
  obtain ⟨hC8, hP8, hW⟩ := id hA
  refine zr_aload_n dX9_appeal_0 rfl ?_
  refine zr_iload_n dX9_appeal_1 rfl ?_
  exact zr_callV (rest := []) dX9_appeal_2 vX9_94 (qX9_requireCaseX hX (p := p) hC hA hno hN) (by decide) (by decide) (by decide) rfl rfl (Nat.le_of_ble_eq_true rfl) xo (by decide) rfl (fun v s h => by cases h.1) (fun E s h => h)

