set_option maxHeartbeats 400000 in
set_option maxRecDepth 100000 in
theorem qX9_coordinate {X : zX} (hX : X.1.stackTraces = false) {σ : zS} {x : Nat} {A S : zDk} {m : Nat} {U : Nat → zDk} {n : Nat} {T : Nat → Int32} {ll : Nat} {ln : Nat → Int32} {hs kf ld dt dc : Int32} {i j : Nat} (hC : zKt x A S m U n T ll ln hs kf ld dt dc σ) (hA : zDw A) (hi : i < kC A) (hj10 : j < 10) : zMet X mX9_coordinate yX9_coordinate 8 0 0 [.ref x, .int (nI i), .int (nI j)] σ (zJ (fun y_ s => y_ = lI (zcw A i j) ∧ zFr σ s (zXr x) ∧ zKt x A S m U n T ll ln hs kf ld dt dc s)) := by
  refine zMet_of (ls := [some (.ref x), some (.int (nI i)), some (.int (nI j))]) rfl (by decide +kernel) rfl (fun h => by cases h) hX (Nat.le_of_ble_eq_true rfl) rfl ?_
  obtain ⟨K, lf, xo, xA, xK, wK, xS, xH, xJ, xT, xL, lL⟩ := id hC
  obtain ⟨hj, jr, jk, jc, jo⟩ := id xJ
  obtain ⟨hC8, hP8, hW⟩ := id hA
  refine zr_aload_n dX9_coordinate_0 rfl ?_
  refine zr_iload_n dX9_coordinate_1 rfl ?_
  refine zr_callVv [] dX9_coordinate_2 vX9_94 (qX9_requireCase hX (i := i) hC hA (by omega)) xo (by decide) (by decide) (by decide) rfl rfl (Nat.le_of_ble_eq_true rfl) (by decide) rfl (fun s_ h_ => ?_)
  rw [h_]; clear h_
  refine zr_iload_n dX9_coordinate_5 rfl ?_
  refine zr_if_lt (tgt := 15) dX9_coordinate_6 (by decide) (fun c_6 => absurd c_6 (fun h => absurd ((nI_ltI (a := j) (b := 0) (by omega) (by omega)).mp h) (by omega))) (fun c_6 => ?_)
  refine zr_iload_n dX9_coordinate_9 rfl ?_
  refine zr_bipush (v := 10) dX9_coordinate_10 (by decide) ?_
  refine zr_icmp_lt (tgt := 25) dX9_coordinate_12 (by decide) (fun c_12 => ?_) (fun c_12 => absurd ((nI_ltI (a := j) (b := 10) (by omega) (by omega)).mpr (by omega)) c_12)
  refine zr_aload_n dX9_coordinate_25 rfl ?_
  refine zr_getfield dX9_coordinate_26 fX9_45 xo rfl (by decide) ?_
  refine zr_aload_n dX9_coordinate_29 rfl ?_
  refine zr_getfield dX9_coordinate_30 fX9_20 xo rfl (by decide) ?_
  obtain ⟨wr1, rr1, mr1, tr1, ar1, fr1, ca1, cb1, cc1, cd1, ce1, cf1, cw1⟩ := id xA
  refine zr_getfield dX9_coordinate_33 fX9_112 ca1 rfl (by decide) ?_
  refine zr_iload_n dX9_coordinate_36 rfl ?_
  refine zr_aaload6 (b := (x + 2 + 6 + 2 * i)) dX9_coordinate_37 cb1 (vp_in_nI (n := i) (by omega) (by omega)) (by rw [nI_clamp (by omega)]; exact (cw1 i (by omega)).1) ?_
  refine zr_callVv [] dX9_coordinate_38 vX9_195 (qC_drawWord hX (i := i) jk xA hA (by omega) (by omega) (zDw.bw hA (by omega))) (zCu.obj jk) (by decide) (by decide) (by decide) rfl rfl (Nat.le_of_ble_eq_true rfl) (by decide) rfl (fun s_kr2 h_kr2 => ?_)
  obtain ⟨F_kr2, r0_kr2⟩ := h_kr2
  have kh3 : s_kr2.1 x = .inr (7, [.ref ((x + 1)), .ref ((x + 2)), .ref ((x + 24)), .ref ((x + 31)), .ref ((x + 53)), .ref ((x + 75)), .ref ((x + 253)), .ref ((x + 255)), .ref ((x + 260)), .int (nI ll), .int hs, .int kf, .int ld, .int dt, .int dc]) := zFr.get F_kr2 (by omega) xo
  have kh4 : s_kr2.1 (x + 1) = .inr (3, [.ref ((x + 2)), .ref ((x + 24)), .ref ((x + 27)), .ref ((x + 29))]) := zFr.get F_kr2 (by omega) hj
  have kh5 : s_kr2.1 (x + 260) = .inl (1, 400, .inl lf) := zFr.get F_kr2 (by omega) xL
  have kR6 : zDA (x + 2) A s_kr2 := zDA.fr xA F_kr2 (by intro q h1 h2 h3; (try simp only [zIn, zJf] at h3); omega)
  have kR7 : zRx (x + 24) s_kr2 := zRx.fr jr F_kr2 (by intro q h1 h2 h3; (try simp only [zIn, zJf] at h3); omega)
  have kR8 : zCu (x + 27) s_kr2 := zCu.fr jc F_kr2 (by intro q h1 h2 h3; (try simp only [zIn, zJf] at h3); omega)
  have kR9 : zCu (x + 29) s_kr2 := zCu.fr jo F_kr2 (by intro q h1 h2 h3; (try simp only [zIn, zJf] at h3); omega)
  have kR10 : zDA (x + 31) K s_kr2 := zDA.fr xK F_kr2 (by intro q h1 h2 h3; (try simp only [zIn, zJf] at h3); omega)
  have kR11 : zDA (x + 53) S s_kr2 := zDA.fr xS F_kr2 (by intro q h1 h2 h3; (try simp only [zIn, zJf] at h3); omega)
  have kR12 : zHi (x + 75) m U s_kr2 := zHi.fr xH F_kr2 (by intro q h1 h2 h3; (try simp only [zIn, zJf] at h3); omega)
  have kR13 : zSk (x + 255) n T s_kr2 := zSk.fr xT F_kr2 (by intro q h1 h2 h3; (try simp only [zIn, zJf] at h3); omega)
  have kF14 := zFr.tr zFr.rf (P := zXr x) F_kr2 (by intro q hq; (try simp only [zIn, zJf, zXr] at hq); unfold zXr; omega)
  refine zr_aload_n dX9_coordinate_41 rfl ?_
  obtain ⟨cw15, ch15, ca15, cb15⟩ := id r0_kr2
  refine zr_getfield dX9_coordinate_42 fX9_45 kh3 rfl (by decide) ?_
  refine zr_getfield dX9_coordinate_45 fX9_199 ca15 rfl (by decide) ?_
  refine zr_iload_n dX9_coordinate_48 rfl ?_
  refine zr_laload dX9_coordinate_49 cb15 (vp_in_nI (n := j) (by omega) (by omega)) ?_
  rw [nI_clamp (n := j) (by omega)]
  refine zr_eql (x' := lI (cw15 j)) rfl ?_
  exact zr_lreturn dX9_coordinate_50 rfl (⟨_, rfl, congrArg lI (ch15 j hj10), kF14, ⟨_, _, kh3, kR6, kR10, wK, kR11, kR12, ⟨kh4, kR7, (zCo.cu r0_kr2), kR8, kR9⟩, kR13, kh5, lL⟩⟩)

set_option maxHeartbeats 400000 in
set_option maxRecDepth 100000 in
theorem qX9_coordinateX {X : zX} (hX : X.1.stackTraces = false) {σ : zS} {x : Nat} {A S : zDk} {m : Nat} {U : Nat → zDk} {n : Nat} {T : Nat → Int32} {ll : Nat} {ln : Nat → Int32} {hs kf ld dt dc : Int32} {p : Int32} {p2 : Int32} (hC : zKt x A S m U n T ll ln hs kf ld dt dc σ) (hA : zDw A) (hno : ¬ (¬ p < 0 ∧ p < nI (kC A))) (hN : σ.2 = none) : zMet X mX9_coordinate yX9_coordinate 7 1 6 [.ref x, .int p, .int p2] σ (fun o s => o = .inr "java/lang/IndexOutOfBoundsException" ∧ s = σ) := by
  refine zMet_of (ls := [some (.ref x), some (.int p), some (.int p2)]) rfl (by decide +kernel) rfl (fun h => by cases h) hX (Nat.le_of_ble_eq_true rfl) rfl ?_
  obtain ⟨K, lf, xo, xA, xK, wK, xS, xH, xJ, xT, xL, lL⟩ := id hC
  obtain ⟨hj, jr, jk, jc, jo⟩ := id xJ
  obtain ⟨hC8, hP8, hW⟩ := id hA
  refine zr_aload_n dX9_coordinate_0 rfl ?_
  refine zr_iload_n dX9_coordinate_1 rfl ?_
  exact zr_callV (rest := []) dX9_coordinate_2 vX9_94 (qX9_requireCaseX hX (p := p) hC hA hno hN) (by decide) (by decide) (by decide) rfl rfl (Nat.le_of_ble_eq_true rfl) xo (by decide) rfl (fun v s h => by cases h.1) (fun E s h => h)

set_option maxHeartbeats 400000 in
set_option maxRecDepth 100000 in
theorem qX9_coordinateN {X : zX} (hX : X.1.stackTraces = false) {σ : zS} {x : Nat} {A S : zDk} {m : Nat} {U : Nat → zDk} {n : Nat} {T : Nat → Int32} {ll : Nat} {ln : Nat → Int32} {hs kf ld dt dc : Int32} {i : Nat} {p : Int32} (hC : zKt x A S m U n T ll ln hs kf ld dt dc σ) (hA : zDw A) (hi : i < kC A) (hno : ¬ (¬ p < 0 ∧ p < 10)) (hN : σ.2 = none) : zMet X mX9_coordinate yX9_coordinate 7 1 6 [.ref x, .int (nI i), .int p] σ (fun o s => o = .inr "java/lang/IllegalArgumentException" ∧ s = σ) := by
  refine zMet_of (ls := [some (.ref x), some (.int (nI i)), some (.int p)]) rfl (by decide +kernel) rfl (fun h => by cases h) hX (Nat.le_of_ble_eq_true rfl) rfl ?_
  obtain ⟨K, lf, xo, xA, xK, wK, xS, xH, xJ, xT, xL, lL⟩ := id hC
  obtain ⟨hj, jr, jk, jc, jo⟩ := id xJ
  obtain ⟨hC8, hP8, hW⟩ := id hA
  refine zr_aload_n dX9_coordinate_0 rfl ?_
  refine zr_iload_n dX9_coordinate_1 rfl ?_
  refine zr_callVv [] dX9_coordinate_2 vX9_94 (qX9_requireCase hX (i := i) hC hA (by omega)) xo (by decide) (by decide) (by decide) rfl rfl (Nat.le_of_ble_eq_true rfl) (by decide) rfl (fun s_ h_ => ?_)
  rw [h_]; clear h_
  refine zr_iload_n dX9_coordinate_5 rfl ?_
  refine zr_if_lt (tgt := 15) dX9_coordinate_6 (by decide) (fun c_6 => ?_) (fun c_6 => ?_)
  · exact zr_thrN dX9_coordinate_15 dX9_coordinate_18 dX9_coordinate_19 dX9_coordinate_21 dX9_coordinate_24 thX9_102_193 rfl (by decide) (by decide) (by decide) (by decide) (⟨rfl, zNN hN⟩)
  · refine zr_iload_n dX9_coordinate_9 rfl ?_
    refine zr_bipush (v := 10) dX9_coordinate_10 (by decide) ?_
    refine zr_icmp_lt (tgt := 25) dX9_coordinate_12 (by decide) (fun c_12 => ?_) (fun c_12 => ?_)
    · exact absurd ⟨c_6, c_12⟩ hno
    · exact zr_thrN dX9_coordinate_15 dX9_coordinate_18 dX9_coordinate_19 dX9_coordinate_21 dX9_coordinate_24 thX9_102_193 rfl (by decide) (by decide) (by decide) (by decide) (⟨rfl, zNN hN⟩)

set_option maxHeartbeats 400000 in
set_option maxRecDepth 100000 in
theorem qX9_findPrecedent {X : zX} (hX : X.1.stackTraces = false) {σ : zS} {x : Nat} {A S : zDk} {m : Nat} {U : Nat → zDk} {n : Nat} {T : Nat → Int32} {ll : Nat} {ln : Nat → Int32} {hs kf ld dt dc : Int32} {i : Nat} (hC : zKt x A S m U n T ll ln hs kf ld dt dc σ) (hA : zDw A) (hi : i < kC A) (hz : ¬ zPf A i = -1) : zMet X mX9_findPrecedent yX9_findPrecedent 8 0 0 [.ref x, .int (nI i)] σ (zI (fun y_ s => y_ = zPf A i ∧ zFr σ s (zXr x) ∧ zKt x A S m U n T ll ln hs kf ld dt dc s)) := by
  refine zMet_of (ls := [some (.ref x), some (.int (nI i)), none]) rfl (by decide +kernel) rfl (fun h => by cases h) hX (Nat.le_of_ble_eq_true rfl) rfl ?_
  obtain ⟨K, lf, xo, xA, xK, wK, xS, xH, xJ, xT, xL, lL⟩ := id hC
  obtain ⟨hj, jr, jk, jc, jo⟩ := id xJ
  obtain ⟨hC8, hP8, hW⟩ := id hA
  refine zr_aload_n dX9_findPrecedent_0 rfl ?_
  refine zr_iload_n dX9_findPrecedent_1 rfl ?_
  refine zr_callVv [] dX9_findPrecedent_2 vX9_94 (qX9_requireCase hX (i := i) hC hA (by omega)) xo (by decide) (by decide) (by decide) rfl rfl (Nat.le_of_ble_eq_true rfl) (by decide) rfl (fun s_ h_ => ?_)
  rw [h_]; clear h_
  refine zr_aload_n dX9_findPrecedent_5 rfl ?_
  refine zr_getfield dX9_findPrecedent_6 fX9_12 xo rfl (by decide) ?_
  refine zr_iload_n dX9_findPrecedent_9 rfl ?_
  have kJ1 : zJd x σ := ⟨hj, jr, jk, jc, jo⟩
  refine zr_callVi [] dX9_findPrecedent_10 vX9_246 (qX5_precedentFor hX (k := i) kJ1 xA hA (by omega)) (zJd.obj kJ1) (by decide) (by decide) (by decide) rfl rfl (Nat.le_of_ble_eq_true rfl) (by decide) rfl (fun kr2 s_kr2 h_kr2 => ?_)
  obtain ⟨e_kr2, F_kr2, r0_kr2⟩ := h_kr2
  have kh3 : s_kr2.1 x = .inr (7, [.ref ((x + 1)), .ref ((x + 2)), .ref ((x + 24)), .ref ((x + 31)), .ref ((x + 53)), .ref ((x + 75)), .ref ((x + 253)), .ref ((x + 255)), .ref ((x + 260)), .int (nI ll), .int hs, .int kf, .int ld, .int dt, .int dc]) := zFr.get F_kr2 (by unfold zJf; omega) xo
  have kh4 : s_kr2.1 (x + 260) = .inl (1, 400, .inl lf) := zFr.get F_kr2 (by unfold zJf; omega) xL
  have kR5 : zDA (x + 2) A s_kr2 := zDA.fr xA F_kr2 (by intro q h1 h2 h3; (try simp only [zIn, zJf] at h3); omega)
  have kR6 : zDA (x + 31) K s_kr2 := zDA.fr xK F_kr2 (by intro q h1 h2 h3; (try simp only [zIn, zJf] at h3); omega)
  have kR7 : zDA (x + 53) S s_kr2 := zDA.fr xS F_kr2 (by intro q h1 h2 h3; (try simp only [zIn, zJf] at h3); omega)
  have kR8 : zHi (x + 75) m U s_kr2 := zHi.fr xH F_kr2 (by intro q h1 h2 h3; (try simp only [zIn, zJf] at h3); omega)
  have kR9 : zSk (x + 255) n T s_kr2 := zSk.fr xT F_kr2 (by intro q h1 h2 h3; (try simp only [zIn, zJf] at h3); omega)
  have kF10 := zFr.tr zFr.rf (P := zXr x) F_kr2 (by intro q hq; (try simp only [zIn, zJf, zXr] at hq); unfold zXr; omega)
  obtain rfl := e_kr2.symm
  obtain ⟨hj11, jr11, jk11, jc11, jo11⟩ := id r0_kr2
  refine zr_istore_n (ls' := [some (.ref x), some (.int (nI i)), some (.int ((zPf A i)))]) dX9_findPrecedent_13 rfl (by decide) rfl ?_
  refine zr_iload_n dX9_findPrecedent_14 rfl ?_
  refine zr_iconst (v := -1) dX9_findPrecedent_15 (by decide) ?_
  refine zr_icmp_ne (tgt := 29) dX9_findPrecedent_16 (by decide) (fun c_16 => ?_) (fun c_16 => absurd c_16 (hz))
  refine zr_iload_n dX9_findPrecedent_29 rfl ?_
  exact zr_ireturn dX9_findPrecedent_30 rfl (rfl) (⟨_, rfl, rfl, kF10, ⟨_, _, kh3, kR5, kR6, wK, kR7, kR8, ⟨hj11, jr11, jk11, jc11, jo11⟩, kR9, kh4, lL⟩⟩)

set_option maxHeartbeats 400000 in
set_option maxRecDepth 100000 in
theorem qX9_findPrecedentX {X : zX} (hX : X.1.stackTraces = false) {σ : zS} {x : Nat} {A S : zDk} {m : Nat} {U : Nat → zDk} {n : Nat} {T : Nat → Int32} {ll : Nat} {ln : Nat → Int32} {hs kf ld dt dc : Int32} {p : Int32} (hC : zKt x A S m U n T ll ln hs kf ld dt dc σ) (hA : zDw A) (hno : ¬ (¬ p < 0 ∧ p < nI (kC A))) (hN : σ.2 = none) : zMet X mX9_findPrecedent yX9_findPrecedent 7 1 6 [.ref x, .int p] σ (fun o s => o = .inr "java/lang/IndexOutOfBoundsException" ∧ s = σ) := by
  refine zMet_of (ls := [some (.ref x), some (.int p), none]) rfl (by decide +kernel) rfl (fun h => by cases h) hX (Nat.le_of_ble_eq_true rfl) rfl ?_
  obtain ⟨K, lf, xo, xA, xK, wK, xS, xH, xJ, xT, xL, lL⟩ := id hC
  obtain ⟨hj, jr, jk, jc, jo⟩ := id xJ
  obtain ⟨hC8, hP8, hW⟩ := id hA
  refine zr_aload_n dX9_findPrecedent_0 rfl ?_
  refine zr_iload_n dX9_findPrecedent_1 rfl ?_
  exact zr_callV (rest := []) dX9_findPrecedent_2 vX9_94 (qX9_requireCaseX hX (p := p) hC hA hno hN) (by decide) (by decide) (by decide) rfl rfl (Nat.le_of_ble_eq_true rfl) xo (by decide) rfl (fun v s h => by cases h.1) (fun E s h => h)

set_option maxHeartbeats 400000 in
set_option maxRecDepth 100000 in
theorem qX9_findPrecedentN {X : zX} (hX : X.1.stackTraces = false) {σ : zS} {x : Nat} {A S : zDk} {m : Nat} {U : Nat → zDk} {n : Nat} {T : Nat → Int32} {ll : Nat} {ln : Nat → Int32} {hs kf ld dt dc : Int32} {i : Nat} (hC : zKt x A S m U n T ll ln hs kf ld dt dc σ) (hA : zDw A) (hi : i < kC A) (hz : zPf A i = -1) (hN : σ.2 = none) : zMet X mX9_findPrecedent yX9_findPrecedent 7 1 6 [.ref x, .int (nI i)] σ (fun o s => o = .inr "java/util/NoSuchElementException" ∧ zFr σ s (zXr x) ∧ zKt x A S m U n T ll ln hs kf ld dt dc s) := by
  refine zMet_of (ls := [some (.ref x), some (.int (nI i)), none]) rfl (by decide +kernel) rfl (fun h => by cases h) hX (Nat.le_of_ble_eq_true rfl) rfl ?_
  obtain ⟨K, lf, xo, xA, xK, wK, xS, xH, xJ, xT, xL, lL⟩ := id hC
  obtain ⟨hj, jr, jk, jc, jo⟩ := id xJ
  obtain ⟨hC8, hP8, hW⟩ := id hA
  refine zr_aload_n dX9_findPrecedent_0 rfl ?_
  refine zr_iload_n dX9_findPrecedent_1 rfl ?_
  refine zr_callVv [] dX9_findPrecedent_2 vX9_94 (qX9_requireCase hX (i := i) hC hA (by omega)) xo (by decide) (by decide) (by decide) rfl rfl (Nat.le_of_ble_eq_true rfl) (by decide) rfl (fun s_ h_ => ?_)
  rw [h_]; clear h_
  refine zr_aload_n dX9_findPrecedent_5 rfl ?_
  refine zr_getfield dX9_findPrecedent_6 fX9_12 xo rfl (by decide) ?_
  refine zr_iload_n dX9_findPrecedent_9 rfl ?_
  have kJ1 : zJd x σ := ⟨hj, jr, jk, jc, jo⟩
  refine zr_callVi [] dX9_findPrecedent_10 vX9_246 (qX5_precedentFor hX (k := i) kJ1 xA hA (by omega)) (zJd.obj kJ1) (by decide) (by decide) (by decide) rfl rfl (Nat.le_of_ble_eq_true rfl) (by decide) rfl (fun kr2 s_kr2 h_kr2 => ?_)
  obtain ⟨e_kr2, F_kr2, r0_kr2⟩ := h_kr2
  have kh3 : s_kr2.1 x = .inr (7, [.ref ((x + 1)), .ref ((x + 2)), .ref ((x + 24)), .ref ((x + 31)), .ref ((x + 53)), .ref ((x + 75)), .ref ((x + 253)), .ref ((x + 255)), .ref ((x + 260)), .int (nI ll), .int hs, .int kf, .int ld, .int dt, .int dc]) := zFr.get F_kr2 (by unfold zJf; omega) xo
  have kh4 : s_kr2.1 (x + 260) = .inl (1, 400, .inl lf) := zFr.get F_kr2 (by unfold zJf; omega) xL
  have kR5 : zDA (x + 2) A s_kr2 := zDA.fr xA F_kr2 (by intro q h1 h2 h3; (try simp only [zIn, zJf] at h3); omega)
  have kR6 : zDA (x + 31) K s_kr2 := zDA.fr xK F_kr2 (by intro q h1 h2 h3; (try simp only [zIn, zJf] at h3); omega)
  have kR7 : zDA (x + 53) S s_kr2 := zDA.fr xS F_kr2 (by intro q h1 h2 h3; (try simp only [zIn, zJf] at h3); omega)
  have kR8 : zHi (x + 75) m U s_kr2 := zHi.fr xH F_kr2 (by intro q h1 h2 h3; (try simp only [zIn, zJf] at h3); omega)
  have kR9 : zSk (x + 255) n T s_kr2 := zSk.fr xT F_kr2 (by intro q h1 h2 h3; (try simp only [zIn, zJf] at h3); omega)
  have kF10 := zFr.tr zFr.rf (P := zXr x) F_kr2 (by intro q hq; (try simp only [zIn, zJf, zXr] at hq); unfold zXr; omega)
  obtain rfl := e_kr2.symm
  obtain ⟨hj11, jr11, jk11, jc11, jo11⟩ := id r0_kr2
  refine zr_istore_n (ls' := [some (.ref x), some (.int (nI i)), some (.int ((zPf A i)))]) dX9_findPrecedent_13 rfl (by decide) rfl ?_
  refine zr_iload_n dX9_findPrecedent_14 rfl ?_
  refine zr_iconst (v := -1) dX9_findPrecedent_15 (by decide) ?_
  refine zr_icmp_ne (tgt := 29) dX9_findPrecedent_16 (by decide) (fun c_16 => absurd (hz) c_16) (fun c_16 => ?_)
  exact zr_thrN dX9_findPrecedent_19 dX9_findPrecedent_22 dX9_findPrecedent_23 dX9_findPrecedent_25 dX9_findPrecedent_28 thX9_150_249 rfl (by decide) (by decide) (by decide) (by decide) (⟨rfl, by rw [zNN (kF10.1.trans hN)]; exact kF10, by rw [zNN (kF10.1.trans hN)]; exact ⟨_, _, kh3, kR5, kR6, wK, kR7, kR8, ⟨hj11, jr11, jk11, jc11, jo11⟩, kR9, kh4, lL⟩⟩)

set_option maxHeartbeats 400000 in
set_option maxRecDepth 100000 in
theorem qX9_areEqualByCoordinates {X : zX} (hX : X.1.stackTraces = false) {σ : zS} {x : Nat} {A S : zDk} {m : Nat} {U : Nat → zDk} {n : Nat} {T : Nat → Int32} {ll : Nat} {ln : Nat → Int32} {hs kf ld dt dc : Int32} {i j : Nat} (hC : zKt x A S m U n T ll ln hs kf ld dt dc σ) (hA : zDw A) (hi : i < kC A) (hj8 : j < kC A) : zMet X mX9_areEqualByCoordinates yX9_areEqualByCoordinates 8 0 0 [.ref x, .int (nI i), .int (nI j)] σ (zI (fun y_ s => y_ = (if zSmb (zcw A i) (zcw A j) = true then 1 else 0) ∧ zFr σ s (zXr x) ∧ zKt x A S m U n T ll ln hs kf ld dt dc s)) := by
  refine zMet_of (ls := [some (.ref x), some (.int (nI i)), some (.int (nI j))]) rfl (by decide +kernel) rfl (fun h => by cases h) hX (Nat.le_of_ble_eq_true rfl) rfl ?_
  obtain ⟨K, lf, xo, xA, xK, wK, xS, xH, xJ, xT, xL, lL⟩ := id hC
  obtain ⟨hj, jr, jk, jc, jo⟩ := id xJ
  obtain ⟨hC8, hP8, hW⟩ := id hA
  refine zr_aload_n dX9_areEqualByCoordinates_0 rfl ?_
  refine zr_iload_n dX9_areEqualByCoordinates_1 rfl ?_
  refine zr_callVv [] dX9_areEqualByCoordinates_2 vX9_94 (qX9_requireCase hX (i := i) hC hA (by omega)) xo (by decide) (by decide) (by decide) rfl rfl (Nat.le_of_ble_eq_true rfl) (by decide) rfl (fun s_ h_ => ?_)
  rw [h_]; clear h_
  refine zr_aload_n dX9_areEqualByCoordinates_5 rfl ?_
  refine zr_iload_n dX9_areEqualByCoordinates_6 rfl ?_
  refine zr_callVv [] dX9_areEqualByCoordinates_7 vX9_94 (qX9_requireCase hX (i := j) hC hA (by omega)) xo (by decide) (by decide) (by decide) rfl rfl (Nat.le_of_ble_eq_true rfl) (by decide) rfl (fun s_ h_ => ?_)
  rw [h_]; clear h_
  refine zr_aload_n dX9_areEqualByCoordinates_10 rfl ?_
  refine zr_getfield dX9_areEqualByCoordinates_11 fX9_12 xo rfl (by decide) ?_
  refine zr_iload_n dX9_areEqualByCoordinates_14 rfl ?_
  refine zr_iload_n dX9_areEqualByCoordinates_15 rfl ?_
  have kJ1 : zJd x σ := ⟨hj, jr, jk, jc, jo⟩
  refine zr_callVi [] dX9_areEqualByCoordinates_16 vX9_207 (qX5_sameBraid hX (i := i) (j := j) kJ1 xA hA (by omega) (by omega)) (zJd.obj kJ1) (by decide) (by decide) (by decide) rfl rfl (Nat.le_of_ble_eq_true rfl) (by decide) rfl (fun kr2 s_kr2 h_kr2 => ?_)
  obtain ⟨e_kr2, F_kr2, r0_kr2⟩ := h_kr2
  have kh3 : s_kr2.1 x = .inr (7, [.ref ((x + 1)), .ref ((x + 2)), .ref ((x + 24)), .ref ((x + 31)), .ref ((x + 53)), .ref ((x + 75)), .ref ((x + 253)), .ref ((x + 255)), .ref ((x + 260)), .int (nI ll), .int hs, .int kf, .int ld, .int dt, .int dc]) := zFr.get F_kr2 (by unfold zJf; omega) xo
  have kh4 : s_kr2.1 (x + 260) = .inl (1, 400, .inl lf) := zFr.get F_kr2 (by unfold zJf; omega) xL
  have kR5 : zDA (x + 2) A s_kr2 := zDA.fr xA F_kr2 (by intro q h1 h2 h3; (try simp only [zIn, zJf] at h3); omega)
  have kR6 : zDA (x + 31) K s_kr2 := zDA.fr xK F_kr2 (by intro q h1 h2 h3; (try simp only [zIn, zJf] at h3); omega)
  have kR7 : zDA (x + 53) S s_kr2 := zDA.fr xS F_kr2 (by intro q h1 h2 h3; (try simp only [zIn, zJf] at h3); omega)
  have kR8 : zHi (x + 75) m U s_kr2 := zHi.fr xH F_kr2 (by intro q h1 h2 h3; (try simp only [zIn, zJf] at h3); omega)
  have kR9 : zSk (x + 255) n T s_kr2 := zSk.fr xT F_kr2 (by intro q h1 h2 h3; (try simp only [zIn, zJf] at h3); omega)
  have kF10 := zFr.tr zFr.rf (P := zXr x) F_kr2 (by intro q hq; (try simp only [zIn, zJf, zXr] at hq); unfold zXr; omega)
  obtain rfl := e_kr2.symm
  obtain ⟨hj11, jr11, jk11, jc11, jo11⟩ := id r0_kr2
  exact zr_ireturn dX9_areEqualByCoordinates_19 rfl (nar_ite) (⟨_, rfl, rfl, kF10, ⟨_, _, kh3, kR5, kR6, wK, kR7, kR8, ⟨hj11, jr11, jk11, jc11, jo11⟩, kR9, kh4, lL⟩⟩)

set_option maxHeartbeats 400000 in
set_option maxRecDepth 100000 in
theorem qX9_areEqualByCoordinatesX {X : zX} (hX : X.1.stackTraces = false) {σ : zS} {x : Nat} {A S : zDk} {m : Nat} {U : Nat → zDk} {n : Nat} {T : Nat → Int32} {ll : Nat} {ln : Nat → Int32} {hs kf ld dt dc : Int32} {p : Int32} {p2 : Int32} (hC : zKt x A S m U n T ll ln hs kf ld dt dc σ) (hA : zDw A) (hno : ¬ (¬ p < 0 ∧ p < nI (kC A))) (hN : σ.2 = none) : zMet X mX9_areEqualByCoordinates yX9_areEqualByCoordinates 7 1 6 [.ref x, .int p, .int p2] σ (fun o s => o = .inr "java/lang/IndexOutOfBoundsException" ∧ s = σ) := by
  refine zMet_of (ls := [some (.ref x), some (.int p), some (.int p2)]) rfl (by decide +kernel) rfl (fun h => by cases h) hX (Nat.le_of_ble_eq_true rfl) rfl ?_
  obtain ⟨K, lf, xo, xA, xK, wK, xS, xH, xJ, xT, xL, lL⟩ := id hC
  obtain ⟨hj, jr, jk, jc, jo⟩ := id xJ
  obtain ⟨hC8, hP8, hW⟩ := id hA
  refine zr_aload_n dX9_areEqualByCoordinates_0 rfl ?_
  refine zr_iload_n dX9_areEqualByCoordinates_1 rfl ?_
  exact zr_callV (rest := []) dX9_areEqualByCoordinates_2 vX9_94 (qX9_requireCaseX hX (p := p) hC hA hno hN) (by decide) (by decide) (by decide) rfl rfl (Nat.le_of_ble_eq_true rfl) xo (by decide) rfl (fun v s h => by cases h.1) (fun E s h => h)

set_option maxHeartbeats 400000 in
set_option maxRecDepth 100000 in
theorem qX9_areEqualByCoordinatesX2 {X : zX} (hX : X.1.stackTraces = false) {σ : zS} {x : Nat} {A S : zDk} {m : Nat} {U : Nat → zDk} {n : Nat} {T : Nat → Int32} {ll : Nat} {ln : Nat → Int32} {hs kf ld dt dc : Int32} {i : Nat} {p : Int32} (hC : zKt x A S m U n T ll ln hs kf ld dt dc σ) (hA : zDw A) (hi : i < kC A) (hno : ¬ (¬ p < 0 ∧ p < nI (kC A))) (hN : σ.2 = none) : zMet X mX9_areEqualByCoordinates yX9_areEqualByCoordinates 7 1 6 [.ref x, .int (nI i), .int p] σ (fun o s => o = .inr "java/lang/IndexOutOfBoundsException" ∧ s = σ) := by
  refine zMet_of (ls := [some (.ref x), some (.int (nI i)), some (.int p)]) rfl (by decide +kernel) rfl (fun h => by cases h) hX (Nat.le_of_ble_eq_true rfl) rfl ?_
  obtain ⟨K, lf, xo, xA, xK, wK, xS, xH, xJ, xT, xL, lL⟩ := id hC
  obtain ⟨hj, jr, jk, jc, jo⟩ := id xJ
  obtain ⟨hC8, hP8, hW⟩ := id hA
  refine zr_aload_n dX9_areEqualByCoordinates_0 rfl ?_
  refine zr_iload_n dX9_areEqualByCoordinates_1 rfl ?_
  refine zr_callVv [] dX9_areEqualByCoordinates_2 vX9_94 (qX9_requireCase hX (i := i) hC hA (by omega)) xo (by decide) (by decide) (by decide) rfl rfl (Nat.le_of_ble_eq_true rfl) (by decide) rfl (fun s_ h_ => ?_)
  rw [h_]; clear h_
  refine zr_aload_n dX9_areEqualByCoordinates_5 rfl ?_
  refine zr_iload_n dX9_areEqualByCoordinates_6 rfl ?_
  exact zr_callV (rest := []) dX9_areEqualByCoordinates_7 vX9_94 (qX9_requireCaseX hX (p := p) hC hA hno hN) (by decide) (by decide) (by decide) rfl rfl (Nat.le_of_ble_eq_true rfl) xo (by decide) rfl (fun v s h => by cases h.1) (fun E s h => h)

set_option maxHeartbeats 400000 in
set_option maxRecDepth 100000 in
theorem qX9_compareByCoordinates {X : zX} (hX : X.1.stackTraces = false) {σ : zS} {x : Nat} {A S : zDk} {m : Nat} {U : Nat → zDk} {n : Nat} {T : Nat → Int32} {ll : Nat} {ln : Nat → Int32} {hs kf ld dt dc : Int32} {i j : Nat} (hC : zKt x A S m U n T ll ln hs kf ld dt dc σ) (hA : zDw A) (hi : i < kC A) (hj8 : j < kC A) : zMet X mX9_compareByCoordinates yX9_compareByCoordinates 8 0 0 [.ref x, .int (nI i), .int (nI j)] σ (zI (fun y_ s => y_ = zqs A i j ∧ zFr σ s (zXr x) ∧ zKt x A S m U n T ll ln hs kf ld dt dc s)) := by
  refine zMet_of (ls := [some (.ref x), some (.int (nI i)), some (.int (nI j))]) rfl (by decide +kernel) rfl (fun h => by cases h) hX (Nat.le_of_ble_eq_true rfl) rfl ?_
  obtain ⟨K, lf, xo, xA, xK, wK, xS, xH, xJ, xT, xL, lL⟩ := id hC
  obtain ⟨hj, jr, jk, jc, jo⟩ := id xJ
  obtain ⟨hC8, hP8, hW⟩ := id hA
  refine zr_aload_n dX9_compareByCoordinates_0 rfl ?_
  refine zr_iload_n dX9_compareByCoordinates_1 rfl ?_
  refine zr_callVv [] dX9_compareByCoordinates_2 vX9_94 (qX9_requireCase hX (i := i) hC hA (by omega)) xo (by decide) (by decide) (by decide) rfl rfl (Nat.le_of_ble_eq_true rfl) (by decide) rfl (fun s_ h_ => ?_)
  rw [h_]; clear h_
  refine zr_aload_n dX9_compareByCoordinates_5 rfl ?_
  refine zr_iload_n dX9_compareByCoordinates_6 rfl ?_
  refine zr_callVv [] dX9_compareByCoordinates_7 vX9_94 (qX9_requireCase hX (i := j) hC hA (by omega)) xo (by decide) (by decide) (by decide) rfl rfl (Nat.le_of_ble_eq_true rfl) (by decide) rfl (fun s_ h_ => ?_)
  rw [h_]; clear h_
  refine zr_aload_n dX9_compareByCoordinates_10 rfl ?_
  refine zr_getfield dX9_compareByCoordinates_11 fX9_12 xo rfl (by decide) ?_
  refine zr_iload_n dX9_compareByCoordinates_14 rfl ?_
  refine zr_iload_n dX9_compareByCoordinates_15 rfl ?_
  have kJ1 : zJd x σ := ⟨hj, jr, jk, jc, jo⟩
  refine zr_callVi [] dX9_compareByCoordinates_16 vX9_214 (qX5_signOfQuotient hX (i := i) (j := j) kJ1 xA hA (by omega) (by omega)) (zJd.obj kJ1) (by decide) (by decide) (by decide) rfl rfl (Nat.le_of_ble_eq_true rfl) (by decide) rfl (fun kr2 s_kr2 h_kr2 => ?_)
  obtain ⟨e_kr2, F_kr2, r0_kr2⟩ := h_kr2
  have kh3 : s_kr2.1 x = .inr (7, [.ref ((x + 1)), .ref ((x + 2)), .ref ((x + 24)), .ref ((x + 31)), .ref ((x + 53)), .ref ((x + 75)), .ref ((x + 253)), .ref ((x + 255)), .ref ((x + 260)), .int (nI ll), .int hs, .int kf, .int ld, .int dt, .int dc]) := zFr.get F_kr2 (by unfold zJf; omega) xo
  have kh4 : s_kr2.1 (x + 260) = .inl (1, 400, .inl lf) := zFr.get F_kr2 (by unfold zJf; omega) xL
  have kR5 : zDA (x + 2) A s_kr2 := zDA.fr xA F_kr2 (by intro q h1 h2 h3; (try simp only [zIn, zJf] at h3); omega)
  have kR6 : zDA (x + 31) K s_kr2 := zDA.fr xK F_kr2 (by intro q h1 h2 h3; (try simp only [zIn, zJf] at h3); omega)
  have kR7 : zDA (x + 53) S s_kr2 := zDA.fr xS F_kr2 (by intro q h1 h2 h3; (try simp only [zIn, zJf] at h3); omega)
  have kR8 : zHi (x + 75) m U s_kr2 := zHi.fr xH F_kr2 (by intro q h1 h2 h3; (try simp only [zIn, zJf] at h3); omega)
  have kR9 : zSk (x + 255) n T s_kr2 := zSk.fr xT F_kr2 (by intro q h1 h2 h3; (try simp only [zIn, zJf] at h3); omega)
  have kF10 := zFr.tr zFr.rf (P := zXr x) F_kr2 (by intro q hq; (try simp only [zIn, zJf, zXr] at hq); unfold zXr; omega)
  obtain rfl := e_kr2.symm
  obtain ⟨hj11, jr11, jk11, jc11, jo11⟩ := id r0_kr2
  exact zr_ireturn dX9_compareByCoordinates_19 rfl (rfl) (⟨_, rfl, rfl, kF10, ⟨_, _, kh3, kR5, kR6, wK, kR7, kR8, ⟨hj11, jr11, jk11, jc11, jo11⟩, kR9, kh4, lL⟩⟩)

set_option maxHeartbeats 400000 in
set_option maxRecDepth 100000 in
theorem qX9_compareByCoordinatesX {X : zX} (hX : X.1.stackTraces = false) {σ : zS} {x : Nat} {A S : zDk} {m : Nat} {U : Nat → zDk} {n : Nat} {T : Nat → Int32} {ll : Nat} {ln : Nat → Int32} {hs kf ld dt dc : Int32} {p : Int32} {p2 : Int32} (hC : zKt x A S m U n T ll ln hs kf ld dt dc σ) (hA : zDw A) (hno : ¬ (¬ p < 0 ∧ p < nI (kC A))) (hN : σ.2 = none) : zMet X mX9_compareByCoordinates yX9_compareByCoordinates 7 1 6 [.ref x, .int p, .int p2] σ (fun o s => o = .inr "java/lang/IndexOutOfBoundsException" ∧ s = σ) := by
  refine zMet_of (ls := [some (.ref x), some (.int p), some (.int p2)]) rfl (by decide +kernel) rfl (fun h => by cases h) hX (Nat.le_of_ble_eq_true rfl) rfl ?_
  obtain ⟨K, lf, xo, xA, xK, wK, xS, xH, xJ, xT, xL, lL⟩ := id hC
  obtain ⟨hj, jr, jk, jc, jo⟩ := id xJ
  obtain ⟨hC8, hP8, hW⟩ := id hA
  refine zr_aload_n dX9_compareByCoordinates_0 rfl ?_
  refine zr_iload_n dX9_compareByCoordinates_1 rfl ?_
  exact zr_callV (rest := []) dX9_compareByCoordinates_2 vX9_94 (qX9_requireCaseX hX (p := p) hC hA hno hN) (by decide) (by decide) (by decide) rfl rfl (Nat.le_of_ble_eq_true rfl) xo (by decide) rfl (fun v s h => by cases h.1) (fun E s h => h)

set_option maxHeartbeats 400000 in
set_option maxRecDepth 100000 in
theorem qX9_compareByCoordinatesX2 {X : zX} (hX : X.1.stackTraces = false) {σ : zS} {x : Nat} {A S : zDk} {m : Nat} {U : Nat → zDk} {n : Nat} {T : Nat → Int32} {ll : Nat} {ln : Nat → Int32} {hs kf ld dt dc : Int32} {i : Nat} {p : Int32} (hC : zKt x A S m U n T ll ln hs kf ld dt dc σ) (hA : zDw A) (hi : i < kC A) (hno : ¬ (¬ p < 0 ∧ p < nI (kC A))) (hN : σ.2 = none) : zMet X mX9_compareByCoordinates yX9_compareByCoordinates 7 1 6 [.ref x, .int (nI i), .int p] σ (fun o s => o = .inr "java/lang/IndexOutOfBoundsException" ∧ s = σ) := by
  refine zMet_of (ls := [some (.ref x), some (.int (nI i)), some (.int p)]) rfl (by decide +kernel) rfl (fun h => by cases h) hX (Nat.le_of_ble_eq_true rfl) rfl ?_
  obtain ⟨K, lf, xo, xA, xK, wK, xS, xH, xJ, xT, xL, lL⟩ := id hC
  obtain ⟨hj, jr, jk, jc, jo⟩ := id xJ
  obtain ⟨hC8, hP8, hW⟩ := id hA
  refine zr_aload_n dX9_compareByCoordinates_0 rfl ?_
  refine zr_iload_n dX9_compareByCoordinates_1 rfl ?_
  refine zr_callVv [] dX9_compareByCoordinates_2 vX9_94 (qX9_requireCase hX (i := i) hC hA (by omega)) xo (by decide) (by decide) (by decide) rfl rfl (Nat.le_of_ble_eq_true rfl) (by decide) rfl (fun s_ h_ => ?_)
  rw [h_]; clear h_
  refine zr_aload_n dX9_compareByCoordinates_5 rfl ?_
  refine zr_iload_n dX9_compareByCoordinates_6 rfl ?_
  exact zr_callV (rest := []) dX9_compareByCoordinates_7 vX9_94 (qX9_requireCaseX hX (p := p) hC hA hno hN) (by decide) (by decide) (by decide) rfl rfl (Nat.le_of_ble_eq_true rfl) xo (by decide) rfl (fun v s h => by cases h.1) (fun E s h => h)

set_option maxHeartbeats 400000 in
set_option maxRecDepth 100000 in
theorem qX9_caseByBraid {X : zX} (hX : X.1.stackTraces = false) {σ : zS} {x : Nat} {A S : zDk} {m : Nat} {U : Nat → zDk} {n : Nat} {T : Nat → Int32} {ll : Nat} {ln : Nat → Int32} {hs kf ld dt dc : Int32} {r : Int32} (hC : zKt x A S m U n T ll ln hs kf ld dt dc σ) (hA : zDw A) (hz : ¬ zCk A r 0 (kC A) = -1) : zMet X mX9_caseByBraid yX9_caseByBraid 8 0 0 [.ref x, .int r] σ (zI (fun y_ s => y_ = zCk A r 0 (kC A) ∧ zFr σ s (zXr x) ∧ zKt x A S m U n T ll ln hs kf ld dt dc s)) := by
  refine zMet_of (ls := [some (.ref x), some (.int r), none]) rfl (by decide +kernel) rfl (fun h => by cases h) hX (Nat.le_of_ble_eq_true rfl) rfl ?_
  obtain ⟨K, lf, xo, xA, xK, wK, xS, xH, xJ, xT, xL, lL⟩ := id hC
  obtain ⟨hj, jr, jk, jc, jo⟩ := id xJ
  obtain ⟨hC8, hP8, hW⟩ := id hA
  refine zr_aload_n dX9_caseByBraid_0 rfl ?_
  refine zr_getfield dX9_caseByBraid_1 fX9_12 xo rfl (by decide) ?_
  refine zr_iload_n dX9_caseByBraid_4 rfl ?_
  have kJ1 : zJd x σ := ⟨hj, jr, jk, jc, jo⟩
  refine zr_callVi [] dX9_caseByBraid_5 vX9_217 (qX5_caseOfRank hX (r := r) kJ1 xA hA ) (zJd.obj kJ1) (by decide) (by decide) (by decide) rfl rfl (Nat.le_of_ble_eq_true rfl) (by decide) rfl (fun kr2 s_kr2 h_kr2 => ?_)
  obtain ⟨e_kr2, F_kr2, r0_kr2⟩ := h_kr2
  have kh3 : s_kr2.1 x = .inr (7, [.ref ((x + 1)), .ref ((x + 2)), .ref ((x + 24)), .ref ((x + 31)), .ref ((x + 53)), .ref ((x + 75)), .ref ((x + 253)), .ref ((x + 255)), .ref ((x + 260)), .int (nI ll), .int hs, .int kf, .int ld, .int dt, .int dc]) := zFr.get F_kr2 (by unfold zJf; omega) xo
  have kh4 : s_kr2.1 (x + 260) = .inl (1, 400, .inl lf) := zFr.get F_kr2 (by unfold zJf; omega) xL
  have kR5 : zDA (x + 2) A s_kr2 := zDA.fr xA F_kr2 (by intro q h1 h2 h3; (try simp only [zIn, zJf] at h3); omega)
  have kR6 : zDA (x + 31) K s_kr2 := zDA.fr xK F_kr2 (by intro q h1 h2 h3; (try simp only [zIn, zJf] at h3); omega)
  have kR7 : zDA (x + 53) S s_kr2 := zDA.fr xS F_kr2 (by intro q h1 h2 h3; (try simp only [zIn, zJf] at h3); omega)
  have kR8 : zHi (x + 75) m U s_kr2 := zHi.fr xH F_kr2 (by intro q h1 h2 h3; (try simp only [zIn, zJf] at h3); omega)
  have kR9 : zSk (x + 255) n T s_kr2 := zSk.fr xT F_kr2 (by intro q h1 h2 h3; (try simp only [zIn, zJf] at h3); omega)
  have kF10 := zFr.tr zFr.rf (P := zXr x) F_kr2 (by intro q hq; (try simp only [zIn, zJf, zXr] at hq); unfold zXr; omega)
  obtain rfl := e_kr2.symm
  obtain ⟨hj11, jr11, jk11, jc11, jo11⟩ := id r0_kr2
  refine zr_istore_n (ls' := [some (.ref x), some (.int r), some (.int ((zCk A r 0 (kC A))))]) dX9_caseByBraid_8 rfl (by decide) rfl ?_
  refine zr_iload_n dX9_caseByBraid_9 rfl ?_
  refine zr_iconst (v := -1) dX9_caseByBraid_10 (by decide) ?_
  refine zr_icmp_ne (tgt := 24) dX9_caseByBraid_11 (by decide) (fun c_11 => ?_) (fun c_11 => absurd c_11 (hz))
  refine zr_iload_n dX9_caseByBraid_24 rfl ?_
  exact zr_ireturn dX9_caseByBraid_25 rfl (rfl) (⟨_, rfl, rfl, kF10, ⟨_, _, kh3, kR5, kR6, wK, kR7, kR8, ⟨hj11, jr11, jk11, jc11, jo11⟩, kR9, kh4, lL⟩⟩)

set_option maxHeartbeats 400000 in
set_option maxRecDepth 100000 in
theorem qX9_caseByBraidN {X : zX} (hX : X.1.stackTraces = false) {σ : zS} {x : Nat} {A S : zDk} {m : Nat} {U : Nat → zDk} {n : Nat} {T : Nat → Int32} {ll : Nat} {ln : Nat → Int32} {hs kf ld dt dc : Int32} {r : Int32} (hC : zKt x A S m U n T ll ln hs kf ld dt dc σ) (hA : zDw A) (hz : zCk A r 0 (kC A) = -1) (hN : σ.2 = none) : zMet X mX9_caseByBraid yX9_caseByBraid 8 1 6 [.ref x, .int r] σ (fun o s => o = .inr "java/util/NoSuchElementException" ∧ zFr σ s (zXr x) ∧ zKt x A S m U n T ll ln hs kf ld dt dc s) := by
  refine zMet_of (ls := [some (.ref x), some (.int r), none]) rfl (by decide +kernel) rfl (fun h => by cases h) hX (Nat.le_of_ble_eq_true rfl) rfl ?_
  obtain ⟨K, lf, xo, xA, xK, wK, xS, xH, xJ, xT, xL, lL⟩ := id hC
  obtain ⟨hj, jr, jk, jc, jo⟩ := id xJ
  obtain ⟨hC8, hP8, hW⟩ := id hA
  refine zr_aload_n dX9_caseByBraid_0 rfl ?_
  refine zr_getfield dX9_caseByBraid_1 fX9_12 xo rfl (by decide) ?_
  refine zr_iload_n dX9_caseByBraid_4 rfl ?_
  have kJ1 : zJd x σ := ⟨hj, jr, jk, jc, jo⟩
  refine zr_callVi [] dX9_caseByBraid_5 vX9_217 (qX5_caseOfRank hX (r := r) kJ1 xA hA ) (zJd.obj kJ1) (by decide) (by decide) (by decide) rfl rfl (Nat.le_of_ble_eq_true rfl) (by decide) rfl (fun kr2 s_kr2 h_kr2 => ?_)
  obtain ⟨e_kr2, F_kr2, r0_kr2⟩ := h_kr2
  have kh3 : s_kr2.1 x = .inr (7, [.ref ((x + 1)), .ref ((x + 2)), .ref ((x + 24)), .ref ((x + 31)), .ref ((x + 53)), .ref ((x + 75)), .ref ((x + 253)), .ref ((x + 255)), .ref ((x + 260)), .int (nI ll), .int hs, .int kf, .int ld, .int dt, .int dc]) := zFr.get F_kr2 (by unfold zJf; omega) xo
  have kh4 : s_kr2.1 (x + 260) = .inl (1, 400, .inl lf) := zFr.get F_kr2 (by unfold zJf; omega) xL
  have kR5 : zDA (x + 2) A s_kr2 := zDA.fr xA F_kr2 (by intro q h1 h2 h3; (try simp only [zIn, zJf] at h3); omega)
  have kR6 : zDA (x + 31) K s_kr2 := zDA.fr xK F_kr2 (by intro q h1 h2 h3; (try simp only [zIn, zJf] at h3); omega)
  have kR7 : zDA (x + 53) S s_kr2 := zDA.fr xS F_kr2 (by intro q h1 h2 h3; (try simp only [zIn, zJf] at h3); omega)
  have kR8 : zHi (x + 75) m U s_kr2 := zHi.fr xH F_kr2 (by intro q h1 h2 h3; (try simp only [zIn, zJf] at h3); omega)
  have kR9 : zSk (x + 255) n T s_kr2 := zSk.fr xT F_kr2 (by intro q h1 h2 h3; (try simp only [zIn, zJf] at h3); omega)
  have kF10 := zFr.tr zFr.rf (P := zXr x) F_kr2 (by intro q hq; (try simp only [zIn, zJf, zXr] at hq); unfold zXr; omega)
  obtain rfl := e_kr2.symm
  obtain ⟨hj11, jr11, jk11, jc11, jo11⟩ := id r0_kr2
  refine zr_istore_n (ls' := [some (.ref x), some (.int r), some (.int ((zCk A r 0 (kC A))))]) dX9_caseByBraid_8 rfl (by decide) rfl ?_
  refine zr_iload_n dX9_caseByBraid_9 rfl ?_
  refine zr_iconst (v := -1) dX9_caseByBraid_10 (by decide) ?_
  refine zr_icmp_ne (tgt := 24) dX9_caseByBraid_11 (by decide) (fun c_11 => absurd (hz) c_11) (fun c_11 => ?_)
  exact zr_thrN dX9_caseByBraid_14 dX9_caseByBraid_17 dX9_caseByBraid_18 dX9_caseByBraid_20 dX9_caseByBraid_23 thX9_150_220 rfl (by decide) (by decide) (by decide) (by decide) (⟨rfl, by rw [zNN (kF10.1.trans hN)]; exact kF10, by rw [zNN (kF10.1.trans hN)]; exact ⟨_, _, kh3, kR5, kR6, wK, kR7, kR8, ⟨hj11, jr11, jk11, jc11, jo11⟩, kR9, kh4, lL⟩⟩)

set_option maxHeartbeats 400000 in
set_option maxRecDepth 100000 in
theorem qX9_requireSuccess {X : zX} (hX : X.1.stackTraces = false) {σ : zS} {x : Nat} {d_ h_ : Nat} {v0 v1 v2 v3 v5 v6 v7 v8 v9 va vb vc vd ve w2 w3 w4 : Value} (h0 : σ.1 x = .inr (7, [v0, v1, .ref (x + 24), v2, v3, v5, v6, v7, v8, v9, va, vb, vc, vd, ve])) (h1 : σ.1 (x + 24) = .inr (4, [.ref d_, .ref h_, w2, w3, w4, .int 0])) : zMet X mX9_requireSuccess yX9_requireSuccess 0 0 0 [.ref x] σ (zV (fun s_ => s_ = σ)) := by
  refine zMet_of (ls := [some (.ref x)]) rfl (by decide +kernel) rfl (fun h => by cases h) hX (Nat.le_of_ble_eq_true rfl) rfl ?_
  refine zr_aload_n dX9_requireSuccess_0 rfl ?_
  refine zr_getfield dX9_requireSuccess_1 fX9_25 h0 rfl (by decide) ?_
  refine zr_getfield dX9_requireSuccess_4 fX9_395 h1 rfl (by decide) ?_
  refine zr_if_eq (tgt := 21) dX9_requireSuccess_7 (by decide) (fun c_7 => ?_) (fun c_7 => absurd (by decide) c_7)
  exact zr_return dX9_requireSuccess_21 rfl (⟨rfl, rfl⟩)

set_option maxHeartbeats 400000 in
set_option maxRecDepth 100000 in
theorem qX9_requireSuccessX {X : zX} (hX : X.1.stackTraces = false) {σ : zS} {x : Nat} {d_ h_ : Nat} {v0 v1 v2 v3 v5 v6 v7 v8 v9 va vb vc vd ve w2 w3 w4 : Value} (h0 : σ.1 x = .inr (7, [v0, v1, .ref (x + 24), v2, v3, v5, v6, v7, v8, v9, va, vb, vc, vd, ve])) (h1 : σ.1 (x + 24) = .inr (4, [.ref d_, .ref h_, w2, w3, w4, .int 1])) (hN : σ.2 = none) : zMet X mX9_requireSuccess yX9_requireSuccess 6 1 6 [.ref x] σ (fun o s => o = .inr "java/lang/IllegalStateException" ∧ s = σ) := by
  refine zMet_of (ls := [some (.ref x)]) rfl (by decide +kernel) rfl (fun h => by cases h) hX (Nat.le_of_ble_eq_true rfl) rfl ?_
  refine zr_aload_n dX9_requireSuccess_0 rfl ?_
  refine zr_getfield dX9_requireSuccess_1 fX9_25 h0 rfl (by decide) ?_
  refine zr_getfield dX9_requireSuccess_4 fX9_395 h1 rfl (by decide) ?_
  refine zr_if_eq (tgt := 21) dX9_requireSuccess_7 (by decide) (fun c_7 => absurd c_7 (by decide)) (fun c_7 => ?_)
  exact zr_thrW dX9_requireSuccess_10 dX9_requireSuccess_13 dX9_requireSuccess_14 dX9_requireSuccess_17 dX9_requireSuccess_20 thX9_287_398 rfl (by decide) (by decide) (by decide) (by decide) (⟨rfl, zNN hN⟩)

set_option maxHeartbeats 400000 in
set_option maxRecDepth 100000 in
theorem qX9_requireRelaxed {X : zX} (hX : X.1.stackTraces = false) {σ : zS} {x : Nat} {A S : zDk} {m : Nat} {U : Nat → zDk} {n : Nat} {T : Nat → Int32} {ll : Nat} {ln : Nat → Int32} {hs kf ld dt dc : Int32} {i : Nat} {q : Nat × List Int32} (hC : zKt x A S m U n T ll ln hs kf ld dt dc σ) (hA : zDw A) (hi : i < kC A) (hO : (zRn 2000 [] (zWd A i)) = some q) : zMet X mX9_requireRelaxed yX9_requireRelaxed 7 0 0 [.ref x, .int (nI i)] σ (zV (fun s => zFr σ s (zXr x) ∧ zKt x A S m U n T ll ln hs kf ld dt dc s ∧ zRo (x + 24) (zRn 2000 [] (zWd A i)) s)) := by
  refine zMet_of (ls := [some (.ref x), some (.int (nI i))]) rfl (by decide +kernel) rfl (fun h => by cases h) hX (Nat.le_of_ble_eq_true rfl) rfl ?_
  obtain ⟨K, lf, xo, xA, xK, wK, xS, xH, xJ, xT, xL, lL⟩ := id hC
  obtain ⟨hj, jr, jk, jc, jo⟩ := id xJ
  obtain ⟨hC8, hP8, hW⟩ := id hA
  refine zr_aload_n dX9_requireRelaxed_0 rfl ?_
  refine zr_iload_n dX9_requireRelaxed_1 rfl ?_
  refine zr_callVv [] dX9_requireRelaxed_2 vX9_94 (qX9_requireCase hX (i := i) hC hA (by omega)) xo (by decide) (by decide) (by decide) rfl rfl (Nat.le_of_ble_eq_true rfl) (by decide) rfl (fun s_ h_ => ?_)
  rw [h_]; clear h_
  refine zr_aload_n dX9_requireRelaxed_5 rfl ?_
  refine zr_getfield dX9_requireRelaxed_6 fX9_25 xo rfl (by decide) ?_
  refine zr_aload_n dX9_requireRelaxed_9 rfl ?_
  refine zr_getfield dX9_requireRelaxed_10 fX9_20 xo rfl (by decide) ?_
  obtain ⟨wr1, rr1, mr1, tr1, ar1, fr1, ca1, cb1, cc1, cd1, ce1, cf1, cw1⟩ := id xA
  refine zr_getfield dX9_requireRelaxed_13 fX9_112 ca1 rfl (by decide) ?_
  refine zr_iload_n dX9_requireRelaxed_16 rfl ?_
  refine zr_aaload6 (b := (x + 2 + 6 + 2 * i)) dX9_requireRelaxed_17 cb1 (vp_in_nI (n := i) (by omega) (by omega)) (by rw [nI_clamp (by omega)]; exact (cw1 i (by omega)).1) ?_
  refine zr_callVv [] dX9_requireRelaxed_18 vX9_385 (qR_relaxWord hX (i := i) jr xA hA (by omega) (by omega)) (zRx.obj jr).choose_spec (by decide) (by decide) (by decide) rfl rfl (Nat.le_of_ble_eq_true rfl) (by decide) rfl (fun s_kr2 h_kr2 => ?_)
  obtain ⟨F_kr2, r0_kr2⟩ := h_kr2
  have kh3 : s_kr2.1 x = .inr (7, [.ref ((x + 1)), .ref ((x + 2)), .ref ((x + 24)), .ref ((x + 31)), .ref ((x + 53)), .ref ((x + 75)), .ref ((x + 253)), .ref ((x + 255)), .ref ((x + 260)), .int (nI ll), .int hs, .int kf, .int ld, .int dt, .int dc]) := zFr.get F_kr2 (by omega) xo
  have kh4 : s_kr2.1 (x + 1) = .inr (3, [.ref ((x + 2)), .ref ((x + 24)), .ref ((x + 27)), .ref ((x + 29))]) := zFr.get F_kr2 (by omega) hj
  have kh5 : s_kr2.1 (x + 260) = .inl (1, 400, .inl lf) := zFr.get F_kr2 (by omega) xL
  have kR6 : zDA (x + 2) A s_kr2 := zDA.fr xA F_kr2 (by intro q h1 h2 h3; (try simp only [zIn, zJf] at h3); omega)
  have kR7 : zCu (x + 253) s_kr2 := zCu.fr jk F_kr2 (by intro q h1 h2 h3; (try simp only [zIn, zJf] at h3); omega)
  have kR8 : zCu (x + 27) s_kr2 := zCu.fr jc F_kr2 (by intro q h1 h2 h3; (try simp only [zIn, zJf] at h3); omega)
  have kR9 : zCu (x + 29) s_kr2 := zCu.fr jo F_kr2 (by intro q h1 h2 h3; (try simp only [zIn, zJf] at h3); omega)
  have kR10 : zDA (x + 31) K s_kr2 := zDA.fr xK F_kr2 (by intro q h1 h2 h3; (try simp only [zIn, zJf] at h3); omega)
  have kR11 : zDA (x + 53) S s_kr2 := zDA.fr xS F_kr2 (by intro q h1 h2 h3; (try simp only [zIn, zJf] at h3); omega)
  have kR12 : zHi (x + 75) m U s_kr2 := zHi.fr xH F_kr2 (by intro q h1 h2 h3; (try simp only [zIn, zJf] at h3); omega)
  have kR13 : zSk (x + 255) n T s_kr2 := zSk.fr xT F_kr2 (by intro q h1 h2 h3; (try simp only [zIn, zJf] at h3); omega)
  have kF14 := zFr.tr zFr.rf (P := zXr x) F_kr2 (by intro q hq; (try simp only [zIn, zJf, zXr] at hq); unfold zXr; omega)
  obtain ⟨rf15, rg15, rn15, rm15, rc15, rl15, qa15, qb15, qc15, qd15⟩ := id r0_kr2
  have qe : rl15 = 0 := by rw [hO] at qd15; exact qd15.1
  rw [qe] at qa15
  refine zr_aload_n dX9_requireRelaxed_21 rfl ?_
  refine zr_callVv [] dX9_requireRelaxed_22 vX9_388 (qX9_requireSuccess hX kh3 qa15) kh3 (by decide) (by decide) (by decide) rfl rfl (Nat.le_of_ble_eq_true rfl) (by decide) rfl (fun s_ h_ => ?_)
  rw [h_]; clear h_
  exact zr_return dX9_requireRelaxed_25 rfl (⟨rfl, kF14, ⟨_, _, kh3, kR6, kR10, wK, kR11, kR12, ⟨kh4, (zRo.rx r0_kr2), kR7, kR8, kR9⟩, kR13, kh5, lL⟩, r0_kr2⟩)

set_option maxHeartbeats 400000 in
set_option maxRecDepth 100000 in
theorem qX9_requireRelaxedN {X : zX} (hX : X.1.stackTraces = false) {σ : zS} {x : Nat} {A S : zDk} {m : Nat} {U : Nat → zDk} {n : Nat} {T : Nat → Int32} {ll : Nat} {ln : Nat → Int32} {hs kf ld dt dc : Int32} {i : Nat} (hC : zKt x A S m U n T ll ln hs kf ld dt dc σ) (hA : zDw A) (hi : i < kC A) (hO : (zRn 2000 [] (zWd A i)) = none) (hN : σ.2 = none) : zMet X mX9_requireRelaxed yX9_requireRelaxed 7 1 6 [.ref x, .int (nI i)] σ (fun o s => o = .inr "java/lang/IllegalStateException" ∧ zFr σ s (zXr x) ∧ zKt x A S m U n T ll ln hs kf ld dt dc s) := by
  refine zMet_of (ls := [some (.ref x), some (.int (nI i))]) rfl (by decide +kernel) rfl (fun h => by cases h) hX (Nat.le_of_ble_eq_true rfl) rfl ?_
  obtain ⟨K, lf, xo, xA, xK, wK, xS, xH, xJ, xT, xL, lL⟩ := id hC
  obtain ⟨hj, jr, jk, jc, jo⟩ := id xJ
  obtain ⟨hC8, hP8, hW⟩ := id hA
  refine zr_aload_n dX9_requireRelaxed_0 rfl ?_
  refine zr_iload_n dX9_requireRelaxed_1 rfl ?_
  refine zr_callVv [] dX9_requireRelaxed_2 vX9_94 (qX9_requireCase hX (i := i) hC hA (by omega)) xo (by decide) (by decide) (by decide) rfl rfl (Nat.le_of_ble_eq_true rfl) (by decide) rfl (fun s_ h_ => ?_)
  rw [h_]; clear h_
  refine zr_aload_n dX9_requireRelaxed_5 rfl ?_
  refine zr_getfield dX9_requireRelaxed_6 fX9_25 xo rfl (by decide) ?_
  refine zr_aload_n dX9_requireRelaxed_9 rfl ?_
  refine zr_getfield dX9_requireRelaxed_10 fX9_20 xo rfl (by decide) ?_
  obtain ⟨wr1, rr1, mr1, tr1, ar1, fr1, ca1, cb1, cc1, cd1, ce1, cf1, cw1⟩ := id xA
  refine zr_getfield dX9_requireRelaxed_13 fX9_112 ca1 rfl (by decide) ?_
  refine zr_iload_n dX9_requireRelaxed_16 rfl ?_
  refine zr_aaload6 (b := (x + 2 + 6 + 2 * i)) dX9_requireRelaxed_17 cb1 (vp_in_nI (n := i) (by omega) (by omega)) (by rw [nI_clamp (by omega)]; exact (cw1 i (by omega)).1) ?_
  refine zr_callVv [] dX9_requireRelaxed_18 vX9_385 (qR_relaxWord hX (i := i) jr xA hA (by omega) (by omega)) (zRx.obj jr).choose_spec (by decide) (by decide) (by decide) rfl rfl (Nat.le_of_ble_eq_true rfl) (by decide) rfl (fun s_kr2 h_kr2 => ?_)
  obtain ⟨F_kr2, r0_kr2⟩ := h_kr2
  have kh3 : s_kr2.1 x = .inr (7, [.ref ((x + 1)), .ref ((x + 2)), .ref ((x + 24)), .ref ((x + 31)), .ref ((x + 53)), .ref ((x + 75)), .ref ((x + 253)), .ref ((x + 255)), .ref ((x + 260)), .int (nI ll), .int hs, .int kf, .int ld, .int dt, .int dc]) := zFr.get F_kr2 (by omega) xo
  have kh4 : s_kr2.1 (x + 1) = .inr (3, [.ref ((x + 2)), .ref ((x + 24)), .ref ((x + 27)), .ref ((x + 29))]) := zFr.get F_kr2 (by omega) hj
  have kh5 : s_kr2.1 (x + 260) = .inl (1, 400, .inl lf) := zFr.get F_kr2 (by omega) xL
  have kR6 : zDA (x + 2) A s_kr2 := zDA.fr xA F_kr2 (by intro q h1 h2 h3; (try simp only [zIn, zJf] at h3); omega)
  have kR7 : zCu (x + 253) s_kr2 := zCu.fr jk F_kr2 (by intro q h1 h2 h3; (try simp only [zIn, zJf] at h3); omega)
  have kR8 : zCu (x + 27) s_kr2 := zCu.fr jc F_kr2 (by intro q h1 h2 h3; (try simp only [zIn, zJf] at h3); omega)
  have kR9 : zCu (x + 29) s_kr2 := zCu.fr jo F_kr2 (by intro q h1 h2 h3; (try simp only [zIn, zJf] at h3); omega)
  have kR10 : zDA (x + 31) K s_kr2 := zDA.fr xK F_kr2 (by intro q h1 h2 h3; (try simp only [zIn, zJf] at h3); omega)
  have kR11 : zDA (x + 53) S s_kr2 := zDA.fr xS F_kr2 (by intro q h1 h2 h3; (try simp only [zIn, zJf] at h3); omega)
  have kR12 : zHi (x + 75) m U s_kr2 := zHi.fr xH F_kr2 (by intro q h1 h2 h3; (try simp only [zIn, zJf] at h3); omega)
  have kR13 : zSk (x + 255) n T s_kr2 := zSk.fr xT F_kr2 (by intro q h1 h2 h3; (try simp only [zIn, zJf] at h3); omega)
  have kF14 := zFr.tr zFr.rf (P := zXr x) F_kr2 (by intro q hq; (try simp only [zIn, zJf, zXr] at hq); unfold zXr; omega)
  obtain ⟨rf15, rg15, rn15, rm15, rc15, rl15, qa15, qb15, qc15, qd15⟩ := id r0_kr2
  have qe : rl15 = 1 := by rw [hO] at qd15; exact qd15
  rw [qe] at qa15
  refine zr_aload_n dX9_requireRelaxed_21 rfl ?_
  exact zr_callV (rest := []) dX9_requireRelaxed_22 vX9_388 (qX9_requireSuccessX hX kh3 qa15 (kF14.1.trans hN)) (by decide) (by decide) (by decide) rfl rfl (Nat.le_of_ble_eq_true rfl) kh3 (by decide) rfl (fun v s h => by cases h.1) (fun E s h => ⟨h.1, by rw [h.2]; exact kF14, by rw [h.2]; exact ⟨_, _, kh3, kR6, kR10, wK, kR11, kR12, ⟨kh4, (zRo.rx r0_kr2), kR7, kR8, kR9⟩, kR13, kh5, lL⟩⟩)

set_option maxHeartbeats 400000 in
set_option maxRecDepth 100000 in
theorem qX9_requireRelaxedQuotient {X : zX} (hX : X.1.stackTraces = false) {σ : zS} {x : Nat} {A S : zDk} {m : Nat} {U : Nat → zDk} {n : Nat} {T : Nat → Int32} {ll : Nat} {ln : Nat → Int32} {hs kf ld dt dc : Int32} {i j : Nat} {q : Nat × List Int32} (hC : zKt x A S m U n T ll ln hs kf ld dt dc σ) (hA : zDw A) (hi : i < kC A) (hj8 : j < kC A) (hO : (zRn 2000 [] (zWq A i j)) = some q) : zMet X mX9_requireRelaxedQuotient yX9_requireRelaxedQuotient 7 0 0 [.ref x, .int (nI i), .int (nI j)] σ (zV (fun s => zFr σ s (zXr x) ∧ zKt x A S m U n T ll ln hs kf ld dt dc s ∧ zRo (x + 24) (zRn 2000 [] (zWq A i j)) s)) := by
  refine zMet_of (ls := [some (.ref x), some (.int (nI i)), some (.int (nI j))]) rfl (by decide +kernel) rfl (fun h => by cases h) hX (Nat.le_of_ble_eq_true rfl) rfl ?_
  obtain ⟨K, lf, xo, xA, xK, wK, xS, xH, xJ, xT, xL, lL⟩ := id hC
  obtain ⟨hj, jr, jk, jc, jo⟩ := id xJ
  obtain ⟨hC8, hP8, hW⟩ := id hA
  refine zr_aload_n dX9_requireRelaxedQuotient_0 rfl ?_
  refine zr_iload_n dX9_requireRelaxedQuotient_1 rfl ?_
  refine zr_callVv [] dX9_requireRelaxedQuotient_2 vX9_94 (qX9_requireCase hX (i := i) hC hA (by omega)) xo (by decide) (by decide) (by decide) rfl rfl (Nat.le_of_ble_eq_true rfl) (by decide) rfl (fun s_ h_ => ?_)
  rw [h_]; clear h_
  refine zr_aload_n dX9_requireRelaxedQuotient_5 rfl ?_
  refine zr_iload_n dX9_requireRelaxedQuotient_6 rfl ?_
  refine zr_callVv [] dX9_requireRelaxedQuotient_7 vX9_94 (qX9_requireCase hX (i := j) hC hA (by omega)) xo (by decide) (by decide) (by decide) rfl rfl (Nat.le_of_ble_eq_true rfl) (by decide) rfl (fun s_ h_ => ?_)
  rw [h_]; clear h_
  refine zr_aload_n dX9_requireRelaxedQuotient_10 rfl ?_
  refine zr_getfield dX9_requireRelaxedQuotient_11 fX9_25 xo rfl (by decide) ?_
  refine zr_aload_n dX9_requireRelaxedQuotient_14 rfl ?_
  refine zr_getfield dX9_requireRelaxedQuotient_15 fX9_20 xo rfl (by decide) ?_
  obtain ⟨wr1, rr1, mr1, tr1, ar1, fr1, ca1, cb1, cc1, cd1, ce1, cf1, cw1⟩ := id xA
  refine zr_getfield dX9_requireRelaxedQuotient_18 fX9_112 ca1 rfl (by decide) ?_
  refine zr_iload_n dX9_requireRelaxedQuotient_21 rfl ?_
  refine zr_aaload6 (b := (x + 2 + 6 + 2 * i)) dX9_requireRelaxedQuotient_22 cb1 (vp_in_nI (n := i) (by omega) (by omega)) (by rw [nI_clamp (by omega)]; exact (cw1 i (by omega)).1) ?_
  refine zr_aload_n dX9_requireRelaxedQuotient_23 rfl ?_
  refine zr_getfield dX9_requireRelaxedQuotient_24 fX9_20 xo rfl (by decide) ?_
  refine zr_getfield dX9_requireRelaxedQuotient_27 fX9_112 ca1 rfl (by decide) ?_
  refine zr_iload_n dX9_requireRelaxedQuotient_30 rfl ?_
  refine zr_aaload6 (b := (x + 2 + 6 + 2 * j)) dX9_requireRelaxedQuotient_31 cb1 (vp_in_nI (n := j) (by omega) (by omega)) (by rw [nI_clamp (by omega)]; exact (cw1 j (by omega)).1) ?_
  refine zr_callVv [] dX9_requireRelaxedQuotient_32 vX9_391 (qR_relaxQuotient hX (i := i) (j := j) jr xA hA (by omega) (by omega) (by omega)) (zRx.obj jr).choose_spec (by decide) (by decide) (by decide) rfl rfl (Nat.le_of_ble_eq_true rfl) (by decide) rfl (fun s_kr2 h_kr2 => ?_)
  obtain ⟨F_kr2, r0_kr2⟩ := h_kr2
  have kh3 : s_kr2.1 x = .inr (7, [.ref ((x + 1)), .ref ((x + 2)), .ref ((x + 24)), .ref ((x + 31)), .ref ((x + 53)), .ref ((x + 75)), .ref ((x + 253)), .ref ((x + 255)), .ref ((x + 260)), .int (nI ll), .int hs, .int kf, .int ld, .int dt, .int dc]) := zFr.get F_kr2 (by omega) xo
  have kh4 : s_kr2.1 (x + 1) = .inr (3, [.ref ((x + 2)), .ref ((x + 24)), .ref ((x + 27)), .ref ((x + 29))]) := zFr.get F_kr2 (by omega) hj
  have kh5 : s_kr2.1 (x + 260) = .inl (1, 400, .inl lf) := zFr.get F_kr2 (by omega) xL
  have kR6 : zDA (x + 2) A s_kr2 := zDA.fr xA F_kr2 (by intro q h1 h2 h3; (try simp only [zIn, zJf] at h3); omega)
  have kR7 : zCu (x + 253) s_kr2 := zCu.fr jk F_kr2 (by intro q h1 h2 h3; (try simp only [zIn, zJf] at h3); omega)
  have kR8 : zCu (x + 27) s_kr2 := zCu.fr jc F_kr2 (by intro q h1 h2 h3; (try simp only [zIn, zJf] at h3); omega)
  have kR9 : zCu (x + 29) s_kr2 := zCu.fr jo F_kr2 (by intro q h1 h2 h3; (try simp only [zIn, zJf] at h3); omega)
  have kR10 : zDA (x + 31) K s_kr2 := zDA.fr xK F_kr2 (by intro q h1 h2 h3; (try simp only [zIn, zJf] at h3); omega)
  have kR11 : zDA (x + 53) S s_kr2 := zDA.fr xS F_kr2 (by intro q h1 h2 h3; (try simp only [zIn, zJf] at h3); omega)
  have kR12 : zHi (x + 75) m U s_kr2 := zHi.fr xH F_kr2 (by intro q h1 h2 h3; (try simp only [zIn, zJf] at h3); omega)
  have kR13 : zSk (x + 255) n T s_kr2 := zSk.fr xT F_kr2 (by intro q h1 h2 h3; (try simp only [zIn, zJf] at h3); omega)
  have kF14 := zFr.tr zFr.rf (P := zXr x) F_kr2 (by intro q hq; (try simp only [zIn, zJf, zXr] at hq); unfold zXr; omega)
  obtain ⟨rf15, rg15, rn15, rm15, rc15, rl15, qa15, qb15, qc15, qd15⟩ := id r0_kr2
  have qe : rl15 = 0 := by rw [hO] at qd15; exact qd15.1
  rw [qe] at qa15
  refine zr_aload_n dX9_requireRelaxedQuotient_35 rfl ?_
  refine zr_callVv [] dX9_requireRelaxedQuotient_36 vX9_388 (qX9_requireSuccess hX kh3 qa15) kh3 (by decide) (by decide) (by decide) rfl rfl (Nat.le_of_ble_eq_true rfl) (by decide) rfl (fun s_ h_ => ?_)
  rw [h_]; clear h_
  exact zr_return dX9_requireRelaxedQuotient_39 rfl (⟨rfl, kF14, ⟨_, _, kh3, kR6, kR10, wK, kR11, kR12, ⟨kh4, (zRo.rx r0_kr2), kR7, kR8, kR9⟩, kR13, kh5, lL⟩, r0_kr2⟩)

set_option maxHeartbeats 400000 in
set_option maxRecDepth 100000 in
theorem qX9_requireRelaxedQuotientN {X : zX} (hX : X.1.stackTraces = false) {σ : zS} {x : Nat} {A S : zDk} {m : Nat} {U : Nat → zDk} {n : Nat} {T : Nat → Int32} {ll : Nat} {ln : Nat → Int32} {hs kf ld dt dc : Int32} {i j : Nat} (hC : zKt x A S m U n T ll ln hs kf ld dt dc σ) (hA : zDw A) (hi : i < kC A) (hj8 : j < kC A) (hO : (zRn 2000 [] (zWq A i j)) = none) (hN : σ.2 = none) : zMet X mX9_requireRelaxedQuotient yX9_requireRelaxedQuotient 7 1 6 [.ref x, .int (nI i), .int (nI j)] σ (fun o s => o = .inr "java/lang/IllegalStateException" ∧ zFr σ s (zXr x) ∧ zKt x A S m U n T ll ln hs kf ld dt dc s) := by
  refine zMet_of (ls := [some (.ref x), some (.int (nI i)), some (.int (nI j))]) rfl (by decide +kernel) rfl (fun h => by cases h) hX (Nat.le_of_ble_eq_true rfl) rfl ?_
  obtain ⟨K, lf, xo, xA, xK, wK, xS, xH, xJ, xT, xL, lL⟩ := id hC
  obtain ⟨hj, jr, jk, jc, jo⟩ := id xJ
  obtain ⟨hC8, hP8, hW⟩ := id hA
  refine zr_aload_n dX9_requireRelaxedQuotient_0 rfl ?_
  refine zr_iload_n dX9_requireRelaxedQuotient_1 rfl ?_
  refine zr_callVv [] dX9_requireRelaxedQuotient_2 vX9_94 (qX9_requireCase hX (i := i) hC hA (by omega)) xo (by decide) (by decide) (by decide) rfl rfl (Nat.le_of_ble_eq_true rfl) (by decide) rfl (fun s_ h_ => ?_)
  rw [h_]; clear h_
  refine zr_aload_n dX9_requireRelaxedQuotient_5 rfl ?_
  refine zr_iload_n dX9_requireRelaxedQuotient_6 rfl ?_
  refine zr_callVv [] dX9_requireRelaxedQuotient_7 vX9_94 (qX9_requireCase hX (i := j) hC hA (by omega)) xo (by decide) (by decide) (by decide) rfl rfl (Nat.le_of_ble_eq_true rfl) (by decide) rfl (fun s_ h_ => ?_)
  rw [h_]; clear h_
  refine zr_aload_n dX9_requireRelaxedQuotient_10 rfl ?_
  refine zr_getfield dX9_requireRelaxedQuotient_11 fX9_25 xo rfl (by decide) ?_
  refine zr_aload_n dX9_requireRelaxedQuotient_14 rfl ?_
  refine zr_getfield dX9_requireRelaxedQuotient_15 fX9_20 xo rfl (by decide) ?_
  obtain ⟨wr1, rr1, mr1, tr1, ar1, fr1, ca1, cb1, cc1, cd1, ce1, cf1, cw1⟩ := id xA
  refine zr_getfield dX9_requireRelaxedQuotient_18 fX9_112 ca1 rfl (by decide) ?_
  refine zr_iload_n dX9_requireRelaxedQuotient_21 rfl ?_
  refine zr_aaload6 (b := (x + 2 + 6 + 2 * i)) dX9_requireRelaxedQuotient_22 cb1 (vp_in_nI (n := i) (by omega) (by omega)) (by rw [nI_clamp (by omega)]; exact (cw1 i (by omega)).1) ?_
  refine zr_aload_n dX9_requireRelaxedQuotient_23 rfl ?_
  refine zr_getfield dX9_requireRelaxedQuotient_24 fX9_20 xo rfl (by decide) ?_
  refine zr_getfield dX9_requireRelaxedQuotient_27 fX9_112 ca1 rfl (by decide) ?_
  refine zr_iload_n dX9_requireRelaxedQuotient_30 rfl ?_
  refine zr_aaload6 (b := (x + 2 + 6 + 2 * j)) dX9_requireRelaxedQuotient_31 cb1 (vp_in_nI (n := j) (by omega) (by omega)) (by rw [nI_clamp (by omega)]; exact (cw1 j (by omega)).1) ?_
  refine zr_callVv [] dX9_requireRelaxedQuotient_32 vX9_391 (qR_relaxQuotient hX (i := i) (j := j) jr xA hA (by omega) (by omega) (by omega)) (zRx.obj jr).choose_spec (by decide) (by decide) (by decide) rfl rfl (Nat.le_of_ble_eq_true rfl) (by decide) rfl (fun s_kr2 h_kr2 => ?_)
  obtain ⟨F_kr2, r0_kr2⟩ := h_kr2
  have kh3 : s_kr2.1 x = .inr (7, [.ref ((x + 1)), .ref ((x + 2)), .ref ((x + 24)), .ref ((x + 31)), .ref ((x + 53)), .ref ((x + 75)), .ref ((x + 253)), .ref ((x + 255)), .ref ((x + 260)), .int (nI ll), .int hs, .int kf, .int ld, .int dt, .int dc]) := zFr.get F_kr2 (by omega) xo
  have kh4 : s_kr2.1 (x + 1) = .inr (3, [.ref ((x + 2)), .ref ((x + 24)), .ref ((x + 27)), .ref ((x + 29))]) := zFr.get F_kr2 (by omega) hj
  have kh5 : s_kr2.1 (x + 260) = .inl (1, 400, .inl lf) := zFr.get F_kr2 (by omega) xL
  have kR6 : zDA (x + 2) A s_kr2 := zDA.fr xA F_kr2 (by intro q h1 h2 h3; (try simp only [zIn, zJf] at h3); omega)
  have kR7 : zCu (x + 253) s_kr2 := zCu.fr jk F_kr2 (by intro q h1 h2 h3; (try simp only [zIn, zJf] at h3); omega)
  have kR8 : zCu (x + 27) s_kr2 := zCu.fr jc F_kr2 (by intro q h1 h2 h3; (try simp only [zIn, zJf] at h3); omega)
  have kR9 : zCu (x + 29) s_kr2 := zCu.fr jo F_kr2 (by intro q h1 h2 h3; (try simp only [zIn, zJf] at h3); omega)
  have kR10 : zDA (x + 31) K s_kr2 := zDA.fr xK F_kr2 (by intro q h1 h2 h3; (try simp only [zIn, zJf] at h3); omega)
  have kR11 : zDA (x + 53) S s_kr2 := zDA.fr xS F_kr2 (by intro q h1 h2 h3; (try simp only [zIn, zJf] at h3); omega)
  have kR12 : zHi (x + 75) m U s_kr2 := zHi.fr xH F_kr2 (by intro q h1 h2 h3; (try simp only [zIn, zJf] at h3); omega)
  have kR13 : zSk (x + 255) n T s_kr2 := zSk.fr xT F_kr2 (by intro q h1 h2 h3; (try simp only [zIn, zJf] at h3); omega)
  have kF14 := zFr.tr zFr.rf (P := zXr x) F_kr2 (by intro q hq; (try simp only [zIn, zJf, zXr] at hq); unfold zXr; omega)
  obtain ⟨rf15, rg15, rn15, rm15, rc15, rl15, qa15, qb15, qc15, qd15⟩ := id r0_kr2
  have qe : rl15 = 1 := by rw [hO] at qd15; exact qd15
  rw [qe] at qa15
  refine zr_aload_n dX9_requireRelaxedQuotient_35 rfl ?_
  exact zr_callV (rest := []) dX9_requireRelaxedQuotient_36 vX9_388 (qX9_requireSuccessX hX kh3 qa15 (kF14.1.trans hN)) (by decide) (by decide) (by decide) rfl rfl (Nat.le_of_ble_eq_true rfl) kh3 (by decide) rfl (fun v s h => by cases h.1) (fun E s h => ⟨h.1, by rw [h.2]; exact kF14, by rw [h.2]; exact ⟨_, _, kh3, kR6, kR10, wK, kR11, kR12, ⟨kh4, (zRo.rx r0_kr2), kR7, kR8, kR9⟩, kR13, kh5, lL⟩⟩)

set_option maxHeartbeats 400000 in
set_option maxRecDepth 100000 in
theorem qX9_requireRelaxedX {X : zX} (hX : X.1.stackTraces = false) {σ : zS} {x : Nat} {A S : zDk} {m : Nat} {U : Nat → zDk} {n : Nat} {T : Nat → Int32} {ll : Nat} {ln : Nat → Int32} {hs kf ld dt dc : Int32} {p : Int32} (hC : zKt x A S m U n T ll ln hs kf ld dt dc σ) (hA : zDw A) (hno : ¬ (¬ p < 0 ∧ p < nI (kC A))) (hN : σ.2 = none) : zMet X mX9_requireRelaxed yX9_requireRelaxed 7 1 6 [.ref x, .int p] σ (fun o s => o = .inr "java/lang/IndexOutOfBoundsException" ∧ s = σ) := by
  refine zMet_of (ls := [some (.ref x), some (.int p)]) rfl (by decide +kernel) rfl (fun h => by cases h) hX (Nat.le_of_ble_eq_true rfl) rfl ?_
  obtain ⟨K, lf, xo, xA, xK, wK, xS, xH, xJ, xT, xL, lL⟩ := id hC
  obtain ⟨hj, jr, jk, jc, jo⟩ := id xJ
  obtain ⟨hC8, hP8, hW⟩ := id hA
  refine zr_aload_n dX9_requireRelaxed_0 rfl ?_
  refine zr_iload_n dX9_requireRelaxed_1 rfl ?_
  exact zr_callV (rest := []) dX9_requireRelaxed_2 vX9_94 (qX9_requireCaseX hX (p := p) hC hA hno hN) (by decide) (by decide) (by decide) rfl rfl (Nat.le_of_ble_eq_true rfl) xo (by decide) rfl (fun v s h => by cases h.1) (fun E s h => h)

set_option maxHeartbeats 400000 in
set_option maxRecDepth 100000 in
theorem qX9_requireRelaxedQuotientX {X : zX} (hX : X.1.stackTraces = false) {σ : zS} {x : Nat} {A S : zDk} {m : Nat} {U : Nat → zDk} {n : Nat} {T : Nat → Int32} {ll : Nat} {ln : Nat → Int32} {hs kf ld dt dc : Int32} {p : Int32} {p2 : Int32} (hC : zKt x A S m U n T ll ln hs kf ld dt dc σ) (hA : zDw A) (hno : ¬ (¬ p < 0 ∧ p < nI (kC A))) (hN : σ.2 = none) : zMet X mX9_requireRelaxedQuotient yX9_requireRelaxedQuotient 7 1 6 [.ref x, .int p, .int p2] σ (fun o s => o = .inr "java/lang/IndexOutOfBoundsException" ∧ s = σ) := by
  refine zMet_of (ls := [some (.ref x), some (.int p), some (.int p2)]) rfl (by decide +kernel) rfl (fun h => by cases h) hX (Nat.le_of_ble_eq_true rfl) rfl ?_
  obtain ⟨K, lf, xo, xA, xK, wK, xS, xH, xJ, xT, xL, lL⟩ := id hC
  obtain ⟨hj, jr, jk, jc, jo⟩ := id xJ
  obtain ⟨hC8, hP8, hW⟩ := id hA
  refine zr_aload_n dX9_requireRelaxedQuotient_0 rfl ?_
  refine zr_iload_n dX9_requireRelaxedQuotient_1 rfl ?_
  exact zr_callV (rest := []) dX9_requireRelaxedQuotient_2 vX9_94 (qX9_requireCaseX hX (p := p) hC hA hno hN) (by decide) (by decide) (by decide) rfl rfl (Nat.le_of_ble_eq_true rfl) xo (by decide) rfl (fun v s h => by cases h.1) (fun E s h => h)

set_option maxHeartbeats 400000 in
set_option maxRecDepth 100000 in
theorem qX9_requireRelaxedQuotientX2 {X : zX} (hX : X.1.stackTraces = false) {σ : zS} {x : Nat} {A S : zDk} {m : Nat} {U : Nat → zDk} {n : Nat} {T : Nat → Int32} {ll : Nat} {ln : Nat → Int32} {hs kf ld dt dc : Int32} {i : Nat} {p : Int32} (hC : zKt x A S m U n T ll ln hs kf ld dt dc σ) (hA : zDw A) (hi : i < kC A) (hno : ¬ (¬ p < 0 ∧ p < nI (kC A))) (hN : σ.2 = none) : zMet X mX9_requireRelaxedQuotient yX9_requireRelaxedQuotient 7 1 6 [.ref x, .int (nI i), .int p] σ (fun o s => o = .inr "java/lang/IndexOutOfBoundsException" ∧ s = σ) := by
  refine zMet_of (ls := [some (.ref x), some (.int (nI i)), some (.int p)]) rfl (by decide +kernel) rfl (fun h => by cases h) hX (Nat.le_of_ble_eq_true rfl) rfl ?_
  obtain ⟨K, lf, xo, xA, xK, wK, xS, xH, xJ, xT, xL, lL⟩ := id hC
  obtain ⟨hj, jr, jk, jc, jo⟩ := id xJ
  obtain ⟨hC8, hP8, hW⟩ := id hA
  refine zr_aload_n dX9_requireRelaxedQuotient_0 rfl ?_
  refine zr_iload_n dX9_requireRelaxedQuotient_1 rfl ?_
  refine zr_callVv [] dX9_requireRelaxedQuotient_2 vX9_94 (qX9_requireCase hX (i := i) hC hA (by omega)) xo (by decide) (by decide) (by decide) rfl rfl (Nat.le_of_ble_eq_true rfl) (by decide) rfl (fun s_ h_ => ?_)
  rw [h_]; clear h_
  refine zr_aload_n dX9_requireRelaxedQuotient_5 rfl ?_
  refine zr_iload_n dX9_requireRelaxedQuotient_6 rfl ?_
  exact zr_callV (rest := []) dX9_requireRelaxedQuotient_7 vX9_94 (qX9_requireCaseX hX (p := p) hC hA hno hN) (by decide) (by decide) (by decide) rfl rfl (Nat.le_of_ble_eq_true rfl) xo (by decide) rfl (fun v s h => by cases h.1) (fun E s h => h)

set_option maxHeartbeats 400000 in
set_option maxRecDepth 100000 in
theorem qX9_relaxedLength {X : zX} (hX : X.1.stackTraces = false) {σ : zS} {x : Nat} {A S : zDk} {m : Nat} {U : Nat → zDk} {n : Nat} {T : Nat → Int32} {ll : Nat} {ln : Nat → Int32} {hs kf ld dt dc : Int32} {i : Nat} {q : Nat × List Int32} (hC : zKt x A S m U n T ll ln hs kf ld dt dc σ) (hA : zDw A) (hi : i < kC A) (hO : zRn 2000 [] (zWd A i) = some q) : zMet X mX9_relaxedLength yX9_relaxedLength 8 0 0 [.ref x, .int (nI i)] σ (zI (fun y_ s => y_ = nI q.2.length ∧ zFr σ s (zXr x) ∧ zKt x A S m U n T ll ln hs kf ld dt dc s)) := by
  refine zMet_of (ls := [some (.ref x), some (.int (nI i))]) rfl (by decide +kernel) rfl (fun h => by cases h) hX (Nat.le_of_ble_eq_true rfl) rfl ?_
  obtain ⟨K, lf, xo, xA, xK, wK, xS, xH, xJ, xT, xL, lL⟩ := id hC
  obtain ⟨hj, jr, jk, jc, jo⟩ := id xJ
  obtain ⟨hC8, hP8, hW⟩ := id hA
  refine zr_aload_n dX9_relaxedLength_0 rfl ?_
  refine zr_iload_n dX9_relaxedLength_1 rfl ?_
  refine zr_callVv [] dX9_relaxedLength_2 vX9_169 (qX9_requireRelaxed hX hC hA hi hO) xo (by decide) (by decide) (by decide) rfl rfl (Nat.le_of_ble_eq_true rfl) (by decide) rfl (fun skq1 hkq1 => ?_)
  obtain ⟨Fkq1, Ckq1, Okq1⟩ := hkq1
  have kF2 := zFr.tr zFr.rf (P := zXr x) Fkq1 (fun q hq => hq)
  obtain ⟨K3, lf3, xo3, xA3, xK3, wK3, xS3, xH3, xJ3, xT3, xL3, lL3⟩ := id Ckq1
  obtain ⟨hj3, jr3, jk3, jc3, jo3⟩ := id xJ3
  obtain ⟨rf4, rg4, rn4, rm4, rc4, rl4, qa4, qb4, qc4, qd4⟩ := id Okq1
  obtain ⟨qe, qW, qn, qr⟩ : rl4 = 0 ∧ zP rf4 rn4 = q.2 ∧ rn4 ≤ 400 ∧ rc4 + q.1 = 2000 := by rw [hO] at qd4; exact qd4
  obtain ⟨qL, qE⟩ := zP_wv qW
  refine zr_aload_n dX9_relaxedLength_5 rfl ?_
  refine zr_getfield dX9_relaxedLength_6 fX9_25 xo3 rfl (by decide) ?_
  refine zr_getfield dX9_relaxedLength_9 fX9_172 qa4 rfl (by decide) ?_
  exact zr_ireturn dX9_relaxedLength_12 rfl (rfl) (⟨_, rfl, by rw [qL], kF2, ⟨_, _, xo3, xA3, xK3, wK3, xS3, xH3, ⟨hj3, (zRo.rx Okq1), jk3, jc3, jo3⟩, xT3, xL3, lL3⟩⟩)

set_option maxHeartbeats 400000 in
set_option maxRecDepth 100000 in
theorem qX9_isTrivial {X : zX} (hX : X.1.stackTraces = false) {σ : zS} {x : Nat} {A S : zDk} {m : Nat} {U : Nat → zDk} {n : Nat} {T : Nat → Int32} {ll : Nat} {ln : Nat → Int32} {hs kf ld dt dc : Int32} {i : Nat} {q : Nat × List Int32} (hC : zKt x A S m U n T ll ln hs kf ld dt dc σ) (hA : zDw A) (hi : i < kC A) (hO : zRn 2000 [] (zWd A i) = some q) : zMet X mX9_isTrivial yX9_isTrivial 8 0 0 [.ref x, .int (nI i)] σ (zI (fun y_ s => y_ = (if q.2.length = 0 then 1 else 0) ∧ zFr σ s (zXr x) ∧ zKt x A S m U n T ll ln hs kf ld dt dc s)) := by
  refine zMet_of (ls := [some (.ref x), some (.int (nI i))]) rfl (by decide +kernel) rfl (fun h => by cases h) hX (Nat.le_of_ble_eq_true rfl) rfl ?_
  obtain ⟨K, lf, xo, xA, xK, wK, xS, xH, xJ, xT, xL, lL⟩ := id hC
  obtain ⟨hj, jr, jk, jc, jo⟩ := id xJ
  obtain ⟨hC8, hP8, hW⟩ := id hA
  refine zr_aload_n dX9_isTrivial_0 rfl ?_
  refine zr_iload_n dX9_isTrivial_1 rfl ?_
  refine zr_callVv [] dX9_isTrivial_2 vX9_169 (qX9_requireRelaxed hX hC hA hi hO) xo (by decide) (by decide) (by decide) rfl rfl (Nat.le_of_ble_eq_true rfl) (by decide) rfl (fun skq1 hkq1 => ?_)
  obtain ⟨Fkq1, Ckq1, Okq1⟩ := hkq1
  have kF2 := zFr.tr zFr.rf (P := zXr x) Fkq1 (fun q hq => hq)
  obtain ⟨K3, lf3, xo3, xA3, xK3, wK3, xS3, xH3, xJ3, xT3, xL3, lL3⟩ := id Ckq1
  obtain ⟨hj3, jr3, jk3, jc3, jo3⟩ := id xJ3
  obtain ⟨rf4, rg4, rn4, rm4, rc4, rl4, qa4, qb4, qc4, qd4⟩ := id Okq1
  obtain ⟨qe, qW, qn, qr⟩ : rl4 = 0 ∧ zP rf4 rn4 = q.2 ∧ rn4 ≤ 400 ∧ rc4 + q.1 = 2000 := by rw [hO] at qd4; exact qd4
  obtain ⟨qL, qE⟩ := zP_wv qW
  refine zr_aload_n dX9_isTrivial_5 rfl ?_
  refine zr_getfield dX9_isTrivial_6 fX9_25 xo3 rfl (by decide) ?_
  refine zr_getfield dX9_isTrivial_9 fX9_172 qa4 rfl (by decide) ?_
  refine zr_if_ne (tgt := 19) dX9_isTrivial_12 (by decide) (fun c_12 => ?_) (fun c_12 => ?_)
  · refine zr_iconst (v := 0) dX9_isTrivial_19 (by decide) ?_
    exact zr_ireturn dX9_isTrivial_20 rfl (rfl) (⟨_, rfl, by rw [qL]; rw [if_neg (fun z => c_12 (by rw [z]; rfl))], kF2, ⟨_, _, xo3, xA3, xK3, wK3, xS3, xH3, ⟨hj3, (zRo.rx Okq1), jk3, jc3, jo3⟩, xT3, xL3, lL3⟩⟩)
  · refine zr_iconst (v := 1) dX9_isTrivial_15 (by decide) ?_
    refine zr_goto (tgt := 20) dX9_isTrivial_16 (by decide) ?_
    exact zr_ireturn dX9_isTrivial_20 rfl (rfl) (⟨_, rfl, by rw [qL]; rw [if_pos ((nI_eq (b := 0) (by omega) (by omega)).mp c_12)], kF2, ⟨_, _, xo3, xA3, xK3, wK3, xS3, xH3, ⟨hj3, (zRo.rx Okq1), jk3, jc3, jo3⟩, xT3, xL3, lL3⟩⟩)

set_option maxHeartbeats 400000 in
set_option maxRecDepth 100000 in
theorem qX9_areEqual {X : zX} (hX : X.1.stackTraces = false) {σ : zS} {x : Nat} {A S : zDk} {m : Nat} {U : Nat → zDk} {n : Nat} {T : Nat → Int32} {ll : Nat} {ln : Nat → Int32} {hs kf ld dt dc : Int32} {i j : Nat} {q : Nat × List Int32} (hC : zKt x A S m U n T ll ln hs kf ld dt dc σ) (hA : zDw A) (hi : i < kC A) (hj8 : j < kC A) (hO : zRn 2000 [] (zWq A i j) = some q) : zMet X mX9_areEqual yX9_areEqual 8 0 0 [.ref x, .int (nI i), .int (nI j)] σ (zI (fun y_ s => y_ = (if q.2.length = 0 then 1 else 0) ∧ zFr σ s (zXr x) ∧ zKt x A S m U n T ll ln hs kf ld dt dc s)) := by
  refine zMet_of (ls := [some (.ref x), some (.int (nI i)), some (.int (nI j))]) rfl (by decide +kernel) rfl (fun h => by cases h) hX (Nat.le_of_ble_eq_true rfl) rfl ?_
  obtain ⟨K, lf, xo, xA, xK, wK, xS, xH, xJ, xT, xL, lL⟩ := id hC
  obtain ⟨hj, jr, jk, jc, jo⟩ := id xJ
  obtain ⟨hC8, hP8, hW⟩ := id hA
  refine zr_aload_n dX9_areEqual_0 rfl ?_
  refine zr_iload_n dX9_areEqual_1 rfl ?_
  refine zr_iload_n dX9_areEqual_2 rfl ?_
  refine zr_callVv [] dX9_areEqual_3 vX9_203 (qX9_requireRelaxedQuotient hX hC hA hi hj8 hO) xo (by decide) (by decide) (by decide) rfl rfl (Nat.le_of_ble_eq_true rfl) (by decide) rfl (fun skq1 hkq1 => ?_)
  obtain ⟨Fkq1, Ckq1, Okq1⟩ := hkq1
  have kF2 := zFr.tr zFr.rf (P := zXr x) Fkq1 (fun q hq => hq)
  obtain ⟨K3, lf3, xo3, xA3, xK3, wK3, xS3, xH3, xJ3, xT3, xL3, lL3⟩ := id Ckq1
  obtain ⟨hj3, jr3, jk3, jc3, jo3⟩ := id xJ3
  obtain ⟨rf4, rg4, rn4, rm4, rc4, rl4, qa4, qb4, qc4, qd4⟩ := id Okq1
  obtain ⟨qe, qW, qn, qr⟩ : rl4 = 0 ∧ zP rf4 rn4 = q.2 ∧ rn4 ≤ 400 ∧ rc4 + q.1 = 2000 := by rw [hO] at qd4; exact qd4
  obtain ⟨qL, qE⟩ := zP_wv qW
  refine zr_aload_n dX9_areEqual_6 rfl ?_
  refine zr_getfield dX9_areEqual_7 fX9_25 xo3 rfl (by decide) ?_
  refine zr_getfield dX9_areEqual_10 fX9_172 qa4 rfl (by decide) ?_
  refine zr_if_ne (tgt := 20) dX9_areEqual_13 (by decide) (fun c_13 => ?_) (fun c_13 => ?_)
  · refine zr_iconst (v := 0) dX9_areEqual_20 (by decide) ?_
    exact zr_ireturn dX9_areEqual_21 rfl (rfl) (⟨_, rfl, by rw [qL]; rw [if_neg (fun z => c_13 (by rw [z]; rfl))], kF2, ⟨_, _, xo3, xA3, xK3, wK3, xS3, xH3, ⟨hj3, (zRo.rx Okq1), jk3, jc3, jo3⟩, xT3, xL3, lL3⟩⟩)
  · refine zr_iconst (v := 1) dX9_areEqual_16 (by decide) ?_
    refine zr_goto (tgt := 21) dX9_areEqual_17 (by decide) ?_
    exact zr_ireturn dX9_areEqual_21 rfl (rfl) (⟨_, rfl, by rw [qL]; rw [if_pos ((nI_eq (b := 0) (by omega) (by omega)).mp c_13)], kF2, ⟨_, _, xo3, xA3, xK3, wK3, xS3, xH3, ⟨hj3, (zRo.rx Okq1), jk3, jc3, jo3⟩, xT3, xL3, lL3⟩⟩)

set_option maxHeartbeats 400000 in
set_option maxRecDepth 100000 in
theorem qX9_compare {X : zX} (hX : X.1.stackTraces = false) {σ : zS} {x : Nat} {A S : zDk} {m : Nat} {U : Nat → zDk} {n : Nat} {T : Nat → Int32} {ll : Nat} {ln : Nat → Int32} {hs kf ld dt dc : Int32} {i j : Nat} {q : Nat × List Int32} (hC : zKt x A S m U n T ll ln hs kf ld dt dc σ) (hA : zDw A) (hi : i < kC A) (hj8 : j < kC A) (hO : zRn 2000 [] (zWq A i j) = some q) : zMet X mX9_compare yX9_compare 8 0 0 [.ref x, .int (nI i), .int (nI j)] σ (zI (fun y_ s => y_ = zsW q.2 ∧ zFr σ s (zXr x) ∧ zKt x A S m U n T ll ln hs kf ld dt dc s)) := by
  refine zMet_of (ls := [some (.ref x), some (.int (nI i)), some (.int (nI j))]) rfl (by decide +kernel) rfl (fun h => by cases h) hX (Nat.le_of_ble_eq_true rfl) rfl ?_
  obtain ⟨K, lf, xo, xA, xK, wK, xS, xH, xJ, xT, xL, lL⟩ := id hC
  obtain ⟨hj, jr, jk, jc, jo⟩ := id xJ
  obtain ⟨hC8, hP8, hW⟩ := id hA
  refine zr_aload_n dX9_compare_0 rfl ?_
  refine zr_iload_n dX9_compare_1 rfl ?_
  refine zr_iload_n dX9_compare_2 rfl ?_
  refine zr_callVv [] dX9_compare_3 vX9_203 (qX9_requireRelaxedQuotient hX hC hA hi hj8 hO) xo (by decide) (by decide) (by decide) rfl rfl (Nat.le_of_ble_eq_true rfl) (by decide) rfl (fun skq1 hkq1 => ?_)
  obtain ⟨Fkq1, Ckq1, Okq1⟩ := hkq1
  have kF2 := zFr.tr zFr.rf (P := zXr x) Fkq1 (fun q hq => hq)
  obtain ⟨K3, lf3, xo3, xA3, xK3, wK3, xS3, xH3, xJ3, xT3, xL3, lL3⟩ := id Ckq1
  obtain ⟨hj3, jr3, jk3, jc3, jo3⟩ := id xJ3
  obtain ⟨rf4, rg4, rn4, rm4, rc4, rl4, qa4, qb4, qc4, qd4⟩ := id Okq1
  obtain ⟨qe, qW, qn, qr⟩ : rl4 = 0 ∧ zP rf4 rn4 = q.2 ∧ rn4 ≤ 400 ∧ rc4 + q.1 = 2000 := by rw [hO] at qd4; exact qd4
  obtain ⟨qL, qE⟩ := zP_wv qW
  refine zr_aload_n dX9_compare_6 rfl ?_
  refine zr_getfield dX9_compare_7 fX9_25 xo3 rfl (by decide) ?_
  refine zr_pVi [] dX9_compare_10 vX9_211 (qX6_signOfDone hX qa4 qb4 (by omega)) qa4 (by decide) (by decide) (by decide) rfl rfl (Nat.le_of_ble_eq_true rfl) (by decide) rfl ?_
  exact zr_ireturn dX9_compare_13 rfl (rfl) (⟨_, rfl, by unfold zsW; rw [qL, zlm_congr qE], kF2, ⟨_, _, xo3, xA3, xK3, wK3, xS3, xH3, ⟨hj3, (zRo.rx Okq1), jk3, jc3, jo3⟩, xT3, xL3, lL3⟩⟩)

set_option maxHeartbeats 400000 in
set_option maxRecDepth 100000 in
theorem qX9_relaxedLengthN {X : zX} (hX : X.1.stackTraces = false) {σ : zS} {x : Nat} {A S : zDk} {m : Nat} {U : Nat → zDk} {n : Nat} {T : Nat → Int32} {ll : Nat} {ln : Nat → Int32} {hs kf ld dt dc : Int32} {i : Nat} (hC : zKt x A S m U n T ll ln hs kf ld dt dc σ) (hA : zDw A) (hi : i < kC A) (hO : (zRn 2000 [] (zWd A i)) = none) (hN : σ.2 = none) : zMet X mX9_relaxedLength yX9_relaxedLength 8 1 6 [.ref x, .int (nI i)] σ (fun o s => o = .inr "java/lang/IllegalStateException" ∧ zFr σ s (zXr x) ∧ zKt x A S m U n T ll ln hs kf ld dt dc s) := by
  refine zMet_of (ls := [some (.ref x), some (.int (nI i))]) rfl (by decide +kernel) rfl (fun h => by cases h) hX (Nat.le_of_ble_eq_true rfl) rfl ?_
  obtain ⟨K, lf, xo, xA, xK, wK, xS, xH, xJ, xT, xL, lL⟩ := id hC
  obtain ⟨hj, jr, jk, jc, jo⟩ := id xJ
  obtain ⟨hC8, hP8, hW⟩ := id hA
  refine zr_aload_n dX9_relaxedLength_0 rfl ?_
  refine zr_iload_n dX9_relaxedLength_1 rfl ?_
  exact zr_callV (rest := []) dX9_relaxedLength_2 vX9_169 (qX9_requireRelaxedN hX hC hA hi hO hN) (by decide) (by decide) (by decide) rfl rfl (Nat.le_of_ble_eq_true rfl) xo (by decide) rfl (fun v s h => by cases h.1) (fun E s h => h)

set_option maxHeartbeats 400000 in
set_option maxRecDepth 100000 in
theorem qX9_relaxedLengthX {X : zX} (hX : X.1.stackTraces = false) {σ : zS} {x : Nat} {A S : zDk} {m : Nat} {U : Nat → zDk} {n : Nat} {T : Nat → Int32} {ll : Nat} {ln : Nat → Int32} {hs kf ld dt dc : Int32} {p : Int32} (hC : zKt x A S m U n T ll ln hs kf ld dt dc σ) (hA : zDw A) (hno : ¬ (¬ p < 0 ∧ p < nI (kC A))) (hN : σ.2 = none) : zMet X mX9_relaxedLength yX9_relaxedLength 8 1 6 [.ref x, .int p] σ (fun o s => o = .inr "java/lang/IndexOutOfBoundsException" ∧ s = σ) := by
  refine zMet_of (ls := [some (.ref x), some (.int p)]) rfl (by decide +kernel) rfl (fun h => by cases h) hX (Nat.le_of_ble_eq_true rfl) rfl ?_
  obtain ⟨K, lf, xo, xA, xK, wK, xS, xH, xJ, xT, xL, lL⟩ := id hC
  obtain ⟨hj, jr, jk, jc, jo⟩ := id xJ
  obtain ⟨hC8, hP8, hW⟩ := id hA
  refine zr_aload_n dX9_relaxedLength_0 rfl ?_
  refine zr_iload_n dX9_relaxedLength_1 rfl ?_
  exact zr_callV (rest := []) dX9_relaxedLength_2 vX9_169 (qX9_requireRelaxedX hX (p := p) hC hA hno hN) (by decide) (by decide) (by decide) rfl rfl (Nat.le_of_ble_eq_true rfl) xo (by decide) rfl (fun v s h => by cases h.1) (fun E s h => h)

set_option maxHeartbeats 400000 in
set_option maxRecDepth 100000 in
theorem qX9_isTrivialN {X : zX} (hX : X.1.stackTraces = false) {σ : zS} {x : Nat} {A S : zDk} {m : Nat} {U : Nat → zDk} {n : Nat} {T : Nat → Int32} {ll : Nat} {ln : Nat → Int32} {hs kf ld dt dc : Int32} {i : Nat} (hC : zKt x A S m U n T ll ln hs kf ld dt dc σ) (hA : zDw A) (hi : i < kC A) (hO : (zRn 2000 [] (zWd A i)) = none) (hN : σ.2 = none) : zMet X mX9_isTrivial yX9_isTrivial 8 1 6 [.ref x, .int (nI i)] σ (fun o s => o = .inr "java/lang/IllegalStateException" ∧ zFr σ s (zXr x) ∧ zKt x A S m U n T ll ln hs kf ld dt dc s) := by
  refine zMet_of (ls := [some (.ref x), some (.int (nI i))]) rfl (by decide +kernel) rfl (fun h => by cases h) hX (Nat.le_of_ble_eq_true rfl) rfl ?_
  obtain ⟨K, lf, xo, xA, xK, wK, xS, xH, xJ, xT, xL, lL⟩ := id hC
  obtain ⟨hj, jr, jk, jc, jo⟩ := id xJ
  obtain ⟨hC8, hP8, hW⟩ := id hA
  refine zr_aload_n dX9_isTrivial_0 rfl ?_
  refine zr_iload_n dX9_isTrivial_1 rfl ?_
  exact zr_callV (rest := []) dX9_isTrivial_2 vX9_169 (qX9_requireRelaxedN hX hC hA hi hO hN) (by decide) (by decide) (by decide) rfl rfl (Nat.le_of_ble_eq_true rfl) xo (by decide) rfl (fun v s h => by cases h.1) (fun E s h => h)

set_option maxHeartbeats 400000 in
set_option maxRecDepth 100000 in
theorem qX9_isTrivialX {X : zX} (hX : X.1.stackTraces = false) {σ : zS} {x : Nat} {A S : zDk} {m : Nat} {U : Nat → zDk} {n : Nat} {T : Nat → Int32} {ll : Nat} {ln : Nat → Int32} {hs kf ld dt dc : Int32} {p : Int32} (hC : zKt x A S m U n T ll ln hs kf ld dt dc σ) (hA : zDw A) (hno : ¬ (¬ p < 0 ∧ p < nI (kC A))) (hN : σ.2 = none) : zMet X mX9_isTrivial yX9_isTrivial 8 1 6 [.ref x, .int p] σ (fun o s => o = .inr "java/lang/IndexOutOfBoundsException" ∧ s = σ) := by
  refine zMet_of (ls := [some (.ref x), some (.int p)]) rfl (by decide +kernel) rfl (fun h => by cases h) hX (Nat.le_of_ble_eq_true rfl) rfl ?_
  obtain ⟨K, lf, xo, xA, xK, wK, xS, xH, xJ, xT, xL, lL⟩ := id hC
  obtain ⟨hj, jr, jk, jc, jo⟩ := id xJ
  obtain ⟨hC8, hP8, hW⟩ := id hA
  refine zr_aload_n dX9_isTrivial_0 rfl ?_
  refine zr_iload_n dX9_isTrivial_1 rfl ?_
  exact zr_callV (rest := []) dX9_isTrivial_2 vX9_169 (qX9_requireRelaxedX hX (p := p) hC hA hno hN) (by decide) (by decide) (by decide) rfl rfl (Nat.le_of_ble_eq_true rfl) xo (by decide) rfl (fun v s h => by cases h.1) (fun E s h => h)

set_option maxHeartbeats 400000 in
set_option maxRecDepth 100000 in
theorem qX9_areEqualN {X : zX} (hX : X.1.stackTraces = false) {σ : zS} {x : Nat} {A S : zDk} {m : Nat} {U : Nat → zDk} {n : Nat} {T : Nat → Int32} {ll : Nat} {ln : Nat → Int32} {hs kf ld dt dc : Int32} {i j : Nat} (hC : zKt x A S m U n T ll ln hs kf ld dt dc σ) (hA : zDw A) (hi : i < kC A) (hj8 : j < kC A) (hO : (zRn 2000 [] (zWq A i j)) = none) (hN : σ.2 = none) : zMet X mX9_areEqual yX9_areEqual 8 1 6 [.ref x, .int (nI i), .int (nI j)] σ (fun o s => o = .inr "java/lang/IllegalStateException" ∧ zFr σ s (zXr x) ∧ zKt x A S m U n T ll ln hs kf ld dt dc s) := by
  refine zMet_of (ls := [some (.ref x), some (.int (nI i)), some (.int (nI j))]) rfl (by decide +kernel) rfl (fun h => by cases h) hX (Nat.le_of_ble_eq_true rfl) rfl ?_
  obtain ⟨K, lf, xo, xA, xK, wK, xS, xH, xJ, xT, xL, lL⟩ := id hC
  obtain ⟨hj, jr, jk, jc, jo⟩ := id xJ
  obtain ⟨hC8, hP8, hW⟩ := id hA
  refine zr_aload_n dX9_areEqual_0 rfl ?_
  refine zr_iload_n dX9_areEqual_1 rfl ?_
  refine zr_iload_n dX9_areEqual_2 rfl ?_
  exact zr_callV (rest := []) dX9_areEqual_3 vX9_203 (qX9_requireRelaxedQuotientN hX hC hA hi hj8 hO hN) (by decide) (by decide) (by decide) rfl rfl (Nat.le_of_ble_eq_true rfl) xo (by decide) rfl (fun v s h => by cases h.1) (fun E s h => h)

set_option maxHeartbeats 400000 in
set_option maxRecDepth 100000 in
theorem qX9_areEqualX {X : zX} (hX : X.1.stackTraces = false) {σ : zS} {x : Nat} {A S : zDk} {m : Nat} {U : Nat → zDk} {n : Nat} {T : Nat → Int32} {ll : Nat} {ln : Nat → Int32} {hs kf ld dt dc : Int32} {p p2 : Int32} (hC : zKt x A S m U n T ll ln hs kf ld dt dc σ) (hA : zDw A) (hno : ¬ (¬ p < 0 ∧ p < nI (kC A))) (hN : σ.2 = none) : zMet X mX9_areEqual yX9_areEqual 8 1 6 [.ref x, .int p, .int p2] σ (fun o s => o = .inr "java/lang/IndexOutOfBoundsException" ∧ s = σ) := by
  refine zMet_of (ls := [some (.ref x), some (.int p), some (.int p2)]) rfl (by decide +kernel) rfl (fun h => by cases h) hX (Nat.le_of_ble_eq_true rfl) rfl ?_
  obtain ⟨K, lf, xo, xA, xK, wK, xS, xH, xJ, xT, xL, lL⟩ := id hC
  obtain ⟨hj, jr, jk, jc, jo⟩ := id xJ
  obtain ⟨hC8, hP8, hW⟩ := id hA
  refine zr_aload_n dX9_areEqual_0 rfl ?_
  refine zr_iload_n dX9_areEqual_1 rfl ?_
  refine zr_iload_n dX9_areEqual_2 rfl ?_
  exact zr_callV (rest := []) dX9_areEqual_3 vX9_203 (qX9_requireRelaxedQuotientX hX (p := p) hC hA hno hN) (by decide) (by decide) (by decide) rfl rfl (Nat.le_of_ble_eq_true rfl) xo (by decide) rfl (fun v s h => by cases h.1) (fun E s h => h)

set_option maxHeartbeats 400000 in
set_option maxRecDepth 100000 in
theorem qX9_areEqualX2 {X : zX} (hX : X.1.stackTraces = false) {σ : zS} {x : Nat} {A S : zDk} {m : Nat} {U : Nat → zDk} {n : Nat} {T : Nat → Int32} {ll : Nat} {ln : Nat → Int32} {hs kf ld dt dc : Int32} {i : Nat} {p : Int32} (hC : zKt x A S m U n T ll ln hs kf ld dt dc σ) (hA : zDw A) (hi : i < kC A) (hno : ¬ (¬ p < 0 ∧ p < nI (kC A))) (hN : σ.2 = none) : zMet X mX9_areEqual yX9_areEqual 8 1 6 [.ref x, .int (nI i), .int p] σ (fun o s => o = .inr "java/lang/IndexOutOfBoundsException" ∧ s = σ) := by
  refine zMet_of (ls := [some (.ref x), some (.int (nI i)), some (.int p)]) rfl (by decide +kernel) rfl (fun h => by cases h) hX (Nat.le_of_ble_eq_true rfl) rfl ?_
  obtain ⟨K, lf, xo, xA, xK, wK, xS, xH, xJ, xT, xL, lL⟩ := id hC
  obtain ⟨hj, jr, jk, jc, jo⟩ := id xJ
  obtain ⟨hC8, hP8, hW⟩ := id hA
  refine zr_aload_n dX9_areEqual_0 rfl ?_
  refine zr_iload_n dX9_areEqual_1 rfl ?_
  refine zr_iload_n dX9_areEqual_2 rfl ?_
  exact zr_callV (rest := []) dX9_areEqual_3 vX9_203 (qX9_requireRelaxedQuotientX2 hX (p := p) hC hA hi hno hN) (by decide) (by decide) (by decide) rfl rfl (Nat.le_of_ble_eq_true rfl) xo (by decide) rfl (fun v s h => by cases h.1) (fun E s h => h)

set_option maxHeartbeats 400000 in
set_option maxRecDepth 100000 in
theorem qX9_compareN {X : zX} (hX : X.1.stackTraces = false) {σ : zS} {x : Nat} {A S : zDk} {m : Nat} {U : Nat → zDk} {n : Nat} {T : Nat → Int32} {ll : Nat} {ln : Nat → Int32} {hs kf ld dt dc : Int32} {i j : Nat} (hC : zKt x A S m U n T ll ln hs kf ld dt dc σ) (hA : zDw A) (hi : i < kC A) (hj8 : j < kC A) (hO : (zRn 2000 [] (zWq A i j)) = none) (hN : σ.2 = none) : zMet X mX9_compare yX9_compare 8 1 6 [.ref x, .int (nI i), .int (nI j)] σ (fun o s => o = .inr "java/lang/IllegalStateException" ∧ zFr σ s (zXr x) ∧ zKt x A S m U n T ll ln hs kf ld dt dc s) := by
  refine zMet_of (ls := [some (.ref x), some (.int (nI i)), some (.int (nI j))]) rfl (by decide +kernel) rfl (fun h => by cases h) hX (Nat.le_of_ble_eq_true rfl) rfl ?_
  obtain ⟨K, lf, xo, xA, xK, wK, xS, xH, xJ, xT, xL, lL⟩ := id hC
  obtain ⟨hj, jr, jk, jc, jo⟩ := id xJ
  obtain ⟨hC8, hP8, hW⟩ := id hA
  refine zr_aload_n dX9_compare_0 rfl ?_
  refine zr_iload_n dX9_compare_1 rfl ?_
  refine zr_iload_n dX9_compare_2 rfl ?_
  exact zr_callV (rest := []) dX9_compare_3 vX9_203 (qX9_requireRelaxedQuotientN hX hC hA hi hj8 hO hN) (by decide) (by decide) (by decide) rfl rfl (Nat.le_of_ble_eq_true rfl) xo (by decide) rfl (fun v s h => by cases h.1) (fun E s h => h)

set_option maxHeartbeats 400000 in
set_option maxRecDepth 100000 in
theorem qX9_compareX {X : zX} (hX : X.1.stackTraces = false) {σ : zS} {x : Nat} {A S : zDk} {m : Nat} {U : Nat → zDk} {n : Nat} {T : Nat → Int32} {ll : Nat} {ln : Nat → Int32} {hs kf ld dt dc : Int32} {p p2 : Int32} (hC : zKt x A S m U n T ll ln hs kf ld dt dc σ) (hA : zDw A) (hno : ¬ (¬ p < 0 ∧ p < nI (kC A))) (hN : σ.2 = none) : zMet X mX9_compare yX9_compare 8 1 6 [.ref x, .int p, .int p2] σ (fun o s => o = .inr "java/lang/IndexOutOfBoundsException" ∧ s = σ) := by
  refine zMet_of (ls := [some (.ref x), some (.int p), some (.int p2)]) rfl (by decide +kernel) rfl (fun h => by cases h) hX (Nat.le_of_ble_eq_true rfl) rfl ?_
  obtain ⟨K, lf, xo, xA, xK, wK, xS, xH, xJ, xT, xL, lL⟩ := id hC
  obtain ⟨hj, jr, jk, jc, jo⟩ := id xJ
  obtain ⟨hC8, hP8, hW⟩ := id hA
  refine zr_aload_n dX9_compare_0 rfl ?_
  refine zr_iload_n dX9_compare_1 rfl ?_
  refine zr_iload_n dX9_compare_2 rfl ?_
  exact zr_callV (rest := []) dX9_compare_3 vX9_203 (qX9_requireRelaxedQuotientX hX (p := p) hC hA hno hN) (by decide) (by decide) (by decide) rfl rfl (Nat.le_of_ble_eq_true rfl) xo (by decide) rfl (fun v s h => by cases h.1) (fun E s h => h)

set_option maxHeartbeats 400000 in
set_option maxRecDepth 100000 in
theorem qX9_compareX2 {X : zX} (hX : X.1.stackTraces = false) {σ : zS} {x : Nat} {A S : zDk} {m : Nat} {U : Nat → zDk} {n : Nat} {T : Nat → Int32} {ll : Nat} {ln : Nat → Int32} {hs kf ld dt dc : Int32} {i : Nat} {p : Int32} (hC : zKt x A S m U n T ll ln hs kf ld dt dc σ) (hA : zDw A) (hi : i < kC A) (hno : ¬ (¬ p < 0 ∧ p < nI (kC A))) (hN : σ.2 = none) : zMet X mX9_compare yX9_compare 8 1 6 [.ref x, .int (nI i), .int p] σ (fun o s => o = .inr "java/lang/IndexOutOfBoundsException" ∧ s = σ) := by
  refine zMet_of (ls := [some (.ref x), some (.int (nI i)), some (.int p)]) rfl (by decide +kernel) rfl (fun h => by cases h) hX (Nat.le_of_ble_eq_true rfl) rfl ?_
  obtain ⟨K, lf, xo, xA, xK, wK, xS, xH, xJ, xT, xL, lL⟩ := id hC
  obtain ⟨hj, jr, jk, jc, jo⟩ := id xJ
  obtain ⟨hC8, hP8, hW⟩ := id hA
  refine zr_aload_n dX9_compare_0 rfl ?_
  refine zr_iload_n dX9_compare_1 rfl ?_
  refine zr_iload_n dX9_compare_2 rfl ?_
  exact zr_callV (rest := []) dX9_compare_3 vX9_203 (qX9_requireRelaxedQuotientX2 hX (p := p) hC hA hi hno hN) (by decide) (by decide) (by decide) rfl rfl (Nat.le_of_ble_eq_true rfl) xo (by decide) rfl (fun v s h => by cases h.1) (fun E s h => h)

