theorem vn64 : ∀ a, a < 129 → ∀ b, b < 9 → 0 < b → FP.ddiv (FP.i2d (nI a)) (FP.i2d (nI b)) &&& 0x7fffffffffffffff ≤ 0x7ff0000000000000 := by decide +kernel
theorem vn32 : ∀ a, a < 9 → ∀ b, b < 9 → 0 < b → FP.fdiv (FP.i2f (nI a)) (FP.i2f (nI b)) &&& 0x7fffffff ≤ 0x7f800000 := by decide +kernel
theorem zCt_sub {P Q : Nat → Bool} (h : ∀ i, P i = true → Q i = true) : ∀ n, zCt P n ≤ zCt Q n
  | 0 => Nat.le_refl 0
  | n + 1 => by
    have := zCt_sub h n
    simp only [zCt]
    by_cases h1 : P n = true
    · rw [if_pos h1, if_pos (h n h1)]; omega
    · rw [if_neg h1]; split <;> omega
theorem zCt_tg (A : zDk) (n : Nat) : zCt (fun i => decide (¬ zvt A i = 0)) n ≤ zCt (fun i => decide (¬ kR A i = -1)) n := zCt_sub (fun i h => decide_eq_true (show ¬ kR A i = -1 from fun q => (of_decide_eq_true h) (by unfold zvt; rw [if_pos q]))) n
set_option maxHeartbeats 400000 in
set_option maxRecDepth 100000 in
theorem qX9_meanLength {X : zX} (hX : X.1.stackTraces = false) {σ : zS} {x : Nat} {A S : zDk} {m : Nat} {U : Nat → zDk} {n : Nat} {T : Nat → Int32} {ll : Nat} {ln : Nat → Int32} {hs kf ld dt dc : Int32} (hC : zKt x A S m U n T ll ln hs kf ld dt dc σ) (hA : zDw A) (hc0 : 0 < kC A) : zMet X mX9_meanLength yX9_meanLength 7 0 0 [.ref x] σ (zDb (fun y_ s_ => y_ = FP.ddiv (FP.i2d (nI (zLs (kN A) (kC A)))) (FP.i2d (nI (kC A))) ∧ s_ = σ)) := by
  refine zMet_of (ls := [some (.ref x)]) rfl (by decide +kernel) rfl (fun h => by cases h) hX (Nat.le_of_ble_eq_true rfl) rfl ?_
  obtain ⟨K, lf, xo, xA, xK, wK, xS, xH, xJ, xT, xL, lL⟩ := id hC
  obtain ⟨hj, jr, jk, jc, jo⟩ := id xJ
  obtain ⟨hC8, hP8, hW⟩ := id hA
  refine zr_aload_n dX9_meanLength_0 rfl ?_
  refine zr_getfield dX9_meanLength_1 fX9_20 xo rfl (by decide) ?_
  obtain ⟨wr1, rr1, mr1, tr1, ar1, fr1, ca1, cb1, cc1, cd1, ce1, cf1, cw1⟩ := id xA
  refine zr_getfield dX9_meanLength_4 fX9_147 ca1 rfl (by decide) ?_
  refine zr_if_ne (tgt := 21) dX9_meanLength_7 (by decide) (fun c_7 => ?_) (fun c_7 => absurd c_7 (fun h => absurd ((nI_eq (a := kC A) (b := 0) (by omega) (by omega)).mp h) (by omega)))
  refine zr_aload_n dX9_meanLength_21 rfl ?_
  refine zr_getfield dX9_meanLength_22 fX9_20 xo rfl (by decide) ?_
  refine zr_pVi [] dX9_meanLength_25 vX9_275 (qX3_sumOfLengths hX  xA hA ) ca1 (by decide) (by decide) (by decide) rfl rfl (Nat.le_of_ble_eq_true rfl) (by decide) rfl ?_
  refine zr_i2d dX9_meanLength_28 ?_
  refine zr_aload_n dX9_meanLength_29 rfl ?_
  refine zr_getfield dX9_meanLength_30 fX9_20 xo rfl (by decide) ?_
  refine zr_getfield dX9_meanLength_33 fX9_147 ca1 rfl (by decide) ?_
  refine zr_i2d dX9_meanLength_36 ?_
  refine zr_ddiv dX9_meanLength_37 (vn64 _ (by have := zLs_le (l := kN A) (n := kC A) (fun i hi => (hW i (by omega)).1); omega) _ (by omega) (by omega)) ?_
  exact zr_dreturn dX9_meanLength_38 rfl (⟨_, rfl, rfl, rfl⟩)

set_option maxHeartbeats 400000 in
set_option maxRecDepth 100000 in
theorem qX9_meanLengthN {X : zX} (hX : X.1.stackTraces = false) {σ : zS} {x : Nat} {A S : zDk} {m : Nat} {U : Nat → zDk} {n : Nat} {T : Nat → Int32} {ll : Nat} {ln : Nat → Int32} {hs kf ld dt dc : Int32} (hC : zKt x A S m U n T ll ln hs kf ld dt dc σ) (hA : zDw A) (hc0 : kC A = 0) (hN : σ.2 = none) : zMet X mX9_meanLength yX9_meanLength 7 1 6 [.ref x] σ (fun o s => o = .inr "java/lang/ArithmeticException" ∧ s = σ) := by
  refine zMet_of (ls := [some (.ref x)]) rfl (by decide +kernel) rfl (fun h => by cases h) hX (Nat.le_of_ble_eq_true rfl) rfl ?_
  obtain ⟨K, lf, xo, xA, xK, wK, xS, xH, xJ, xT, xL, lL⟩ := id hC
  obtain ⟨hj, jr, jk, jc, jo⟩ := id xJ
  obtain ⟨hC8, hP8, hW⟩ := id hA
  refine zr_aload_n dX9_meanLength_0 rfl ?_
  refine zr_getfield dX9_meanLength_1 fX9_20 xo rfl (by decide) ?_
  obtain ⟨wr1, rr1, mr1, tr1, ar1, fr1, ca1, cb1, cc1, cd1, ce1, cf1, cw1⟩ := id xA
  refine zr_getfield dX9_meanLength_4 fX9_147 ca1 rfl (by decide) ?_
  refine zr_if_ne (tgt := 21) dX9_meanLength_7 (by decide) (fun c_7 => absurd ((nI_eq (a := kC A) (b := 0) (by omega) (by omega)).mpr (by omega)) c_7) (fun c_7 => ?_)
  exact zr_thrW dX9_meanLength_10 dX9_meanLength_13 dX9_meanLength_14 dX9_meanLength_17 dX9_meanLength_20 thX9_270_272 rfl (by decide) (by decide) (by decide) (by decide) (⟨rfl, zNN hN⟩)

set_option maxHeartbeats 400000 in
set_option maxRecDepth 100000 in
theorem qX9_freedShare {X : zX} (hX : X.1.stackTraces = false) {σ : zS} {x : Nat} {A S : zDk} {m : Nat} {U : Nat → zDk} {n : Nat} {T : Nat → Int32} {ll : Nat} {ln : Nat → Int32} {hs kf ld dt dc : Int32} (hC : zKt x A S m U n T ll ln hs kf ld dt dc σ) (hA : zDw A) (hd0 : 0 < (zCt (fun i => decide (¬ kR A i = -1)) (kC A))) : zMet X mX9_freedShare yX9_freedShare 7 0 0 [.ref x] σ (zF (fun y_ s_ => y_ = FP.fdiv (FP.i2f (nI ((zCt (fun i => decide (¬ kR A i = -1)) (kC A)) - (zCt (fun i => decide (¬ zvt A i = 0)) (kC A))))) (FP.i2f (nI (zCt (fun i => decide (¬ kR A i = -1)) (kC A)))) ∧ s_ = σ)) := by
  refine zMet_of (ls := [some (.ref x), none]) rfl (by decide +kernel) rfl (fun h => by cases h) hX (Nat.le_of_ble_eq_true rfl) rfl ?_
  obtain ⟨K, lf, xo, xA, xK, wK, xS, xH, xJ, xT, xL, lL⟩ := id hC
  obtain ⟨hj, jr, jk, jc, jo⟩ := id xJ
  obtain ⟨hC8, hP8, hW⟩ := id hA
  have d1 := zCt_le (fun i => decide (¬ kR A i = -1)) (kC A)
  have d2 := zCt_tg A (kC A)
  refine zr_aload_n dX9_freedShare_0 rfl ?_
  refine zr_getfield dX9_freedShare_1 fX9_20 xo rfl (by decide) ?_
  refine zr_pVi [] dX9_freedShare_4 vX9_264 (qX3_countDecided hX  xA hA ) (zDA.obj xA) (by decide) (by decide) (by decide) rfl rfl (Nat.le_of_ble_eq_true rfl) (by decide) rfl ?_
  refine zr_istore_n (ls' := [some (.ref x), some (.int (nI (zCt (fun i => decide (¬ kR A i = -1)) (kC A))))]) dX9_freedShare_7 rfl (by decide) rfl ?_
  refine zr_iload_n dX9_freedShare_8 rfl ?_
  refine zr_if_ne (tgt := 23) dX9_freedShare_9 (by decide) (fun c_9 => ?_) (fun c_9 => absurd c_9 (fun h => absurd ((nI_eq (a := zCt (fun i => decide (¬ kR A i = -1)) (kC A)) (b := 0) (by omega) (by omega)).mp h) (by omega)))
  refine zr_iload_n dX9_freedShare_23 rfl ?_
  refine zr_aload_n dX9_freedShare_24 rfl ?_
  refine zr_getfield dX9_freedShare_25 fX9_20 xo rfl (by decide) ?_
  refine zr_pVi [.int (nI (zCt (fun i => decide (¬ kR A i = -1)) (kC A)))] dX9_freedShare_28 vX9_267 (qX3_countTangled hX  xA hA ) (zDA.obj xA) (by decide) (by decide) (by decide) rfl rfl (Nat.le_of_ble_eq_true rfl) (by decide) rfl ?_
  refine zr_isub dX9_freedShare_31 ?_
  refine zr_eqi (x' := nI ((zCt (fun i => decide (¬ kR A i = -1)) (kC A)) - (zCt (fun i => decide (¬ zvt A i = 0)) (kC A)))) (pk_sub (a := (zCt (fun i => decide (¬ kR A i = -1)) (kC A))) (b := (zCt (fun i => decide (¬ zvt A i = 0)) (kC A))) (by omega)) ?_
  refine zr_i2f dX9_freedShare_32 ?_
  refine zr_iload_n dX9_freedShare_33 rfl ?_
  refine zr_i2f dX9_freedShare_34 ?_
  refine zr_fdiv dX9_freedShare_35 (vn32 _ (by omega) _ (by omega) (by omega)) ?_
  exact zr_freturn dX9_freedShare_36 rfl (⟨_, rfl, rfl, rfl⟩)

set_option maxHeartbeats 400000 in
set_option maxRecDepth 100000 in
theorem qX9_freedShareN {X : zX} (hX : X.1.stackTraces = false) {σ : zS} {x : Nat} {A S : zDk} {m : Nat} {U : Nat → zDk} {n : Nat} {T : Nat → Int32} {ll : Nat} {ln : Nat → Int32} {hs kf ld dt dc : Int32} (hC : zKt x A S m U n T ll ln hs kf ld dt dc σ) (hA : zDw A) (hd0 : (zCt (fun i => decide (¬ kR A i = -1)) (kC A)) = 0) (hN : σ.2 = none) : zMet X mX9_freedShare yX9_freedShare 7 1 6 [.ref x] σ (fun o s => o = .inr "java/lang/ArithmeticException" ∧ s = σ) := by
  refine zMet_of (ls := [some (.ref x), none]) rfl (by decide +kernel) rfl (fun h => by cases h) hX (Nat.le_of_ble_eq_true rfl) rfl ?_
  obtain ⟨K, lf, xo, xA, xK, wK, xS, xH, xJ, xT, xL, lL⟩ := id hC
  obtain ⟨hj, jr, jk, jc, jo⟩ := id xJ
  obtain ⟨hC8, hP8, hW⟩ := id hA
  have d1 := zCt_le (fun i => decide (¬ kR A i = -1)) (kC A)
  have d2 := zCt_tg A (kC A)
  refine zr_aload_n dX9_freedShare_0 rfl ?_
  refine zr_getfield dX9_freedShare_1 fX9_20 xo rfl (by decide) ?_
  refine zr_pVi [] dX9_freedShare_4 vX9_264 (qX3_countDecided hX  xA hA ) (zDA.obj xA) (by decide) (by decide) (by decide) rfl rfl (Nat.le_of_ble_eq_true rfl) (by decide) rfl ?_
  refine zr_istore_n (ls' := [some (.ref x), some (.int (nI (zCt (fun i => decide (¬ kR A i = -1)) (kC A))))]) dX9_freedShare_7 rfl (by decide) rfl ?_
  refine zr_iload_n dX9_freedShare_8 rfl ?_
  refine zr_if_ne (tgt := 23) dX9_freedShare_9 (by decide) (fun c_9 => absurd ((nI_eq (a := zCt (fun i => decide (¬ kR A i = -1)) (kC A)) (b := 0) (by omega) (by omega)).mpr (by omega)) c_9) (fun c_9 => ?_)
  exact zr_thrW dX9_freedShare_12 dX9_freedShare_15 dX9_freedShare_16 dX9_freedShare_19 dX9_freedShare_22 thX9_270_278 rfl (by decide) (by decide) (by decide) (by decide) (⟨rfl, zNN hN⟩)

set_option maxHeartbeats 400000 in
set_option maxRecDepth 100000 in
theorem l_ic2 {X : zX} (hX : X.1.stackTraces = false) {σ : zS} {x : Nat} {A S : zDk} {m : Nat} {U : Nat → zDk} {n : Nat} {T : Nat → Int32} {ll : Nat} {ln : Nat → Int32} {hs kf ld dt dc : Int32} {w : Nat} (hA : zDw A) (hAg : ∀ i j, i < j → j < kC A → zAg A i j = 1) (hw : w < kC A) (hk : ∀ s : zS, zFr σ s (zXr x) → zKt x A S m U n T ll ln hs kf ld dt dc s → zW X mX9_isConsistent 7 0 0 (zI (fun y_ s => y_ = 1 ∧ zFr σ s (zXr x) ∧ zKt x A S m U n T ll ln hs kf ld dt dc s)) 48 [some (.ref x), some (.int (nI w)), none] [] s) : ∀ (j i : Nat) (s : zS), i + j = (kC A - (w + 1)) → (zFr σ s (zXr x)) → (zKt x A S m U n T ll ln hs kf ld dt dc s) → zW X mX9_isConsistent 7 0 0 (zI (fun y_ s => y_ = 1 ∧ zFr σ s (zXr x) ∧ zKt x A S m U n T ll ln hs kf ld dt dc s)) 17 [some (.ref x), some (.int (nI w)), some (.int (nI (w + 1 + i)))] [] s := by
  intro j
  induction j with
  | zero =>
    intro i s hi hF hCs
    obtain ⟨K, lf, xo, xA, xK, wK, xS, xH, xJ, xT, xL, lL⟩ := id hCs
    obtain ⟨hj, jr, jk, jc, jo⟩ := id xJ
    obtain ⟨hC8, hP8, hW⟩ := id hA
    refine zr_iload_n dX9_isConsistent_17 rfl ?_
    refine zr_aload_n dX9_isConsistent_18 rfl ?_
    refine zr_getfield dX9_isConsistent_19 fX9_20 xo rfl (by decide) ?_
    obtain ⟨wr1, rr1, mr1, tr1, ar1, fr1, ca1, cb1, cc1, cd1, ce1, cf1, cw1⟩ := id xA
    refine zr_getfield dX9_isConsistent_22 fX9_147 ca1 rfl (by decide) ?_
    refine zr_icmp_ge (tgt := 48) dX9_isConsistent_25 (by decide) (fun c_25 => ?_) (fun c_25 => absurd ((nI_leI (a := kC A) (b := w + 1 + i) (by omega) (by omega)).mpr (by omega)) c_25)
    exact (hk _ hF hCs).less (fun q v hv => by rcases q with _ | _ | _ | q <;> simp_all)
  | succ j ih =>
    intro i s hi hF hCs
    obtain ⟨K, lf, xo, xA, xK, wK, xS, xH, xJ, xT, xL, lL⟩ := id hCs
    obtain ⟨hj, jr, jk, jc, jo⟩ := id xJ
    obtain ⟨hC8, hP8, hW⟩ := id hA
    refine zr_iload_n dX9_isConsistent_17 rfl ?_
    refine zr_aload_n dX9_isConsistent_18 rfl ?_
    refine zr_getfield dX9_isConsistent_19 fX9_20 xo rfl (by decide) ?_
    obtain ⟨wr1, rr1, mr1, tr1, ar1, fr1, ca1, cb1, cc1, cd1, ce1, cf1, cw1⟩ := id xA
    refine zr_getfield dX9_isConsistent_22 fX9_147 ca1 rfl (by decide) ?_
    refine zr_icmp_ge (tgt := 48) dX9_isConsistent_25 (by decide) (fun c_25 => absurd c_25 (fun h => absurd ((nI_leI (a := kC A) (b := w + 1 + i) (by omega) (by omega)).mp h) (by omega))) (fun c_25 => ?_)
    refine zr_aload_n dX9_isConsistent_28 rfl ?_
    refine zr_getfield dX9_isConsistent_29 fX9_12 xo rfl (by decide) ?_
    refine zr_iload_n dX9_isConsistent_32 rfl ?_
    refine zr_iload_n dX9_isConsistent_33 rfl ?_
    have kJ2 : zJd x s := ⟨hj, jr, jk, jc, jo⟩
    refine zr_callVi [] dX9_isConsistent_34 vX9_280 (qX5_agreesOn hX (i := w) (j := w + 1 + i) kJ2 xA hA (by omega) (by omega)) (zJd.obj kJ2) (by decide) (by decide) (by decide) rfl rfl (Nat.le_of_ble_eq_true rfl) (by decide) rfl (fun kr3 s_kr3 h_kr3 => ?_)
    obtain ⟨e_kr3, F_kr3, r0_kr3⟩ := h_kr3
    have kh4 : s_kr3.1 x = .inr (7, [.ref ((x + 1)), .ref ((x + 2)), .ref ((x + 24)), .ref ((x + 31)), .ref ((x + 53)), .ref ((x + 75)), .ref ((x + 253)), .ref ((x + 255)), .ref ((x + 260)), .int (nI ll), .int hs, .int kf, .int ld, .int dt, .int dc]) := zFr.get F_kr3 (by unfold zJf; omega) xo
    have kh5 : s_kr3.1 (x + 260) = .inl (1, 400, .inl lf) := zFr.get F_kr3 (by unfold zJf; omega) xL
    have kR6 : zDA (x + 2) A s_kr3 := zDA.fr xA F_kr3 (by intro q h1 h2 h3; (try simp only [zIn, zJf] at h3); omega)
    have kR7 : zDA (x + 31) K s_kr3 := zDA.fr xK F_kr3 (by intro q h1 h2 h3; (try simp only [zIn, zJf] at h3); omega)
    have kR8 : zDA (x + 53) S s_kr3 := zDA.fr xS F_kr3 (by intro q h1 h2 h3; (try simp only [zIn, zJf] at h3); omega)
    have kR9 : zHi (x + 75) m U s_kr3 := zHi.fr xH F_kr3 (by intro q h1 h2 h3; (try simp only [zIn, zJf] at h3); omega)
    have kR10 : zSk (x + 255) n T s_kr3 := zSk.fr xT F_kr3 (by intro q h1 h2 h3; (try simp only [zIn, zJf] at h3); omega)
    have kF11 := zFr.tr hF F_kr3 (by intro q hq; (try simp only [zIn, zJf, zXr] at hq); unfold zXr; omega)
    obtain rfl := e_kr3.symm
    obtain ⟨hj12, jr12, jk12, jc12, jo12⟩ := id r0_kr3
    refine zr_if_ne (tgt := 42) dX9_isConsistent_37 (by decide) (fun c_37 => ?_) (fun c_37 => absurd c_37 (by rw [hAg w (w + 1 + i) (by omega) (by omega)]; decide))
    refine zr_iinc (v := nI (w + 1 + i + 1)) (ls' := [some (.ref x), some (.int (nI w)), some (.int (nI (w + 1 + i + 1)))]) dX9_isConsistent_42 rfl (nI_1 _) (by decide) rfl ?_
    refine zr_goto (tgt := 17) dX9_isConsistent_45 (by decide) ?_
    exact ih (i + 1) _ (by omega) (kF11) (⟨_, _, kh4, kR6, kR7, wK, kR8, kR9, ⟨hj12, jr12, jk12, jc12, jo12⟩, kR10, kh5, lL⟩)

set_option maxHeartbeats 400000 in
set_option maxRecDepth 100000 in
theorem l_ic {X : zX} (hX : X.1.stackTraces = false) {σ : zS} {x : Nat} {A S : zDk} {m : Nat} {U : Nat → zDk} {n : Nat} {T : Nat → Int32} {ll : Nat} {ln : Nat → Int32} {hs kf ld dt dc : Int32} (hA : zDw A) (hAg : ∀ i j, i < j → j < kC A → zAg A i j = 1) : ∀ (j i : Nat) (s : zS) (x2 : Option Value), i + j = (kC A) → (zFr σ s (zXr x)) → (zKt x A S m U n T ll ln hs kf ld dt dc s) → zW X mX9_isConsistent 7 0 0 (zI (fun y_ s => y_ = 1 ∧ zFr σ s (zXr x) ∧ zKt x A S m U n T ll ln hs kf ld dt dc s)) 2 [some (.ref x), some (.int (nI i)), x2] [] s := by
  intro j
  induction j with
  | zero =>
    intro i s x2 hi hF hCs
    obtain ⟨K, lf, xo, xA, xK, wK, xS, xH, xJ, xT, xL, lL⟩ := id hCs
    obtain ⟨hj, jr, jk, jc, jo⟩ := id xJ
    obtain ⟨hC8, hP8, hW⟩ := id hA
    refine zr_iload_n dX9_isConsistent_2 rfl ?_
    refine zr_aload_n dX9_isConsistent_3 rfl ?_
    refine zr_getfield dX9_isConsistent_4 fX9_20 xo rfl (by decide) ?_
    obtain ⟨wr1, rr1, mr1, tr1, ar1, fr1, ca1, cb1, cc1, cd1, ce1, cf1, cw1⟩ := id xA
    refine zr_getfield dX9_isConsistent_7 fX9_147 ca1 rfl (by decide) ?_
    refine zr_icmp_ge (tgt := 54) dX9_isConsistent_10 (by decide) (fun c_10 => ?_) (fun c_10 => absurd ((nI_leI (a := kC A) (b := i) (by omega) (by omega)).mpr (by omega)) c_10)
    refine zr_iconst (v := 1) dX9_isConsistent_54 (by decide) ?_
    exact zr_ireturn dX9_isConsistent_55 rfl (rfl) (⟨_, rfl, rfl, hF, hCs⟩)
  | succ j ih =>
    intro i s x2 hi hF hCs
    obtain ⟨K, lf, xo, xA, xK, wK, xS, xH, xJ, xT, xL, lL⟩ := id hCs
    obtain ⟨hj, jr, jk, jc, jo⟩ := id xJ
    obtain ⟨hC8, hP8, hW⟩ := id hA
    refine zr_iload_n dX9_isConsistent_2 rfl ?_
    refine zr_aload_n dX9_isConsistent_3 rfl ?_
    refine zr_getfield dX9_isConsistent_4 fX9_20 xo rfl (by decide) ?_
    obtain ⟨wr1, rr1, mr1, tr1, ar1, fr1, ca1, cb1, cc1, cd1, ce1, cf1, cw1⟩ := id xA
    refine zr_getfield dX9_isConsistent_7 fX9_147 ca1 rfl (by decide) ?_
    refine zr_icmp_ge (tgt := 54) dX9_isConsistent_10 (by decide) (fun c_10 => absurd c_10 (fun h => absurd ((nI_leI (a := kC A) (b := i) (by omega) (by omega)).mp h) (by omega))) (fun c_10 => ?_)
    refine zr_iload_n dX9_isConsistent_13 rfl ?_
    refine zr_iconst (v := 1) dX9_isConsistent_14 (by decide) ?_
    refine zr_iadd dX9_isConsistent_15 ?_
    refine zr_eqi (x' := nI (i + 1)) (nI_add i 1) ?_
    refine zr_istore_n (ls' := [some (.ref x), some (.int (nI i)), some (.int (nI (i + 1)))]) dX9_isConsistent_16 rfl (by decide) rfl ?_
    exact l_ic2 hX hA hAg (w := i) (by omega) (fun s hF hCs => by refine zr_iinc (v := nI (i + 1)) (ls' := [some (.ref x), some (.int (nI (i + 1))), none]) dX9_isConsistent_48 rfl (nI_1 _) (by decide) rfl ?_; refine zr_goto (tgt := 2) dX9_isConsistent_51 (by decide) ?_; exact ih (i + 1) s none (by omega) hF hCs) (kC A - (i + 1)) 0 s (by omega) hF hCs

set_option maxHeartbeats 400000 in
set_option maxRecDepth 100000 in
theorem qX9_isConsistent {X : zX} (hX : X.1.stackTraces = false) {σ : zS} {x : Nat} {A S : zDk} {m : Nat} {U : Nat → zDk} {n : Nat} {T : Nat → Int32} {ll : Nat} {ln : Nat → Int32} {hs kf ld dt dc : Int32} (hC : zKt x A S m U n T ll ln hs kf ld dt dc σ) (hA : zDw A) (hAg : ∀ i j, i < j → j < kC A → zAg A i j = 1) : zMet X mX9_isConsistent yX9_isConsistent 7 0 0 [.ref x] σ (zI (fun y_ s => y_ = 1 ∧ zFr σ s (zXr x) ∧ zKt x A S m U n T ll ln hs kf ld dt dc s)) := by
  refine zMet_of (ls := [some (.ref x), none, none]) rfl (by decide +kernel) rfl (fun h => by cases h) hX (Nat.le_of_ble_eq_true rfl) rfl ?_
  obtain ⟨K, lf, xo, xA, xK, wK, xS, xH, xJ, xT, xL, lL⟩ := id hC
  obtain ⟨hj, jr, jk, jc, jo⟩ := id xJ
  obtain ⟨hC8, hP8, hW⟩ := id hA
  refine zr_iconst (v := 0) dX9_isConsistent_0 (by decide) ?_
  refine zr_istore_n (ls' := [some (.ref x), some (.int 0), none]) dX9_isConsistent_1 rfl (by decide) rfl ?_
  exact l_ic hX hA hAg (kC A) 0 _ _ (by omega) zFr.rf hC

set_option maxHeartbeats 400000 in
set_option maxRecDepth 100000 in
theorem qX9_feed {X : zX} (hX : X.1.stackTraces = false) {σ : zS} {x : Nat} {A S : zDk} {m : Nat} {U : Nat → zDk} {n : Nat} {T : Nat → Int32} {ll : Nat} {ln : Nat → Int32} {hs kf ld dt dc : Int32} {c : Int32} (hC : zKt x A S m U n T ll ln hs kf ld dt dc σ) (hA : zDw A) (hn60 : n < 60) (hc : vp_nar .char c = c) : zMet X mX9_feed yX9_feed 8 0 0 [.ref x, .int c] σ (zI (fun y_ s => y_ = nI (n + 1) ∧ zFr σ s (zXr x) ∧ zKt x A S m U (n + 1) (upd T n c) ll ln hs kf ld dt dc s)) := by
  refine zMet_of (ls := [some (.ref x), some (.int c)]) rfl (by decide +kernel) rfl (fun h => by cases h) hX (Nat.le_of_ble_eq_true rfl) rfl ?_
  obtain ⟨K, lf, xo, xA, xK, wK, xS, xH, xJ, xT, xL, lL⟩ := id hC
  obtain ⟨hj, jr, jk, jc, jo⟩ := id xJ
  obtain ⟨hC8, hP8, hW⟩ := id hA
  refine zr_aload_n dX9_feed_0 rfl ?_
  refine zr_getfield dX9_feed_1 fX9_52 xo rfl (by decide) ?_
  refine zr_pVi [] dX9_feed_4 vX9_283 (qX7_isFull hX xT) (zSk.obj xT).choose_spec (by decide) (by decide) (by decide) rfl rfl (Nat.le_of_ble_eq_true rfl) (by decide) rfl ?_
  refine zr_if_eq (tgt := 21) dX9_feed_7 (by decide) (fun c_7 => ?_) (fun c_7 => absurd (if_pos hn60) c_7)
  refine zr_aload_n dX9_feed_21 rfl ?_
  refine zr_getfield dX9_feed_22 fX9_52 xo rfl (by decide) ?_
  refine zr_iload_n dX9_feed_25 rfl ?_
  refine zr_callVi [] dX9_feed_26 vX9_292 (qX7_write hX (c := c) xT hn60 hc) (zSk.obj xT).choose_spec (by decide) (by decide) (by decide) rfl rfl (Nat.le_of_ble_eq_true rfl) (by decide) rfl (fun kr1 s_kr1 h_kr1 => ?_)
  obtain ⟨e_kr1, F_kr1, r0_kr1⟩ := h_kr1
  have kh2 : s_kr1.1 x = .inr (7, [.ref ((x + 1)), .ref ((x + 2)), .ref ((x + 24)), .ref ((x + 31)), .ref ((x + 53)), .ref ((x + 75)), .ref ((x + 253)), .ref ((x + 255)), .ref ((x + 260)), .int (nI ll), .int hs, .int kf, .int ld, .int dt, .int dc]) := zFr.get F_kr1 (by omega) xo
  have kh3 : s_kr1.1 (x + 1) = .inr (3, [.ref ((x + 2)), .ref ((x + 24)), .ref ((x + 27)), .ref ((x + 29))]) := zFr.get F_kr1 (by omega) hj
  have kh4 : s_kr1.1 (x + 260) = .inl (1, 400, .inl lf) := zFr.get F_kr1 (by omega) xL
  have kR5 : zDA (x + 2) A s_kr1 := zDA.fr xA F_kr1 (by intro q h1 h2 h3; (try simp only [zIn, zJf] at h3); omega)
  have kR6 : zRx (x + 24) s_kr1 := zRx.fr jr F_kr1 (by intro q h1 h2 h3; (try simp only [zIn, zJf] at h3); omega)
  have kR7 : zCu (x + 253) s_kr1 := zCu.fr jk F_kr1 (by intro q h1 h2 h3; (try simp only [zIn, zJf] at h3); omega)
  have kR8 : zCu (x + 27) s_kr1 := zCu.fr jc F_kr1 (by intro q h1 h2 h3; (try simp only [zIn, zJf] at h3); omega)
  have kR9 : zCu (x + 29) s_kr1 := zCu.fr jo F_kr1 (by intro q h1 h2 h3; (try simp only [zIn, zJf] at h3); omega)
  have kR10 : zDA (x + 31) K s_kr1 := zDA.fr xK F_kr1 (by intro q h1 h2 h3; (try simp only [zIn, zJf] at h3); omega)
  have kR11 : zDA (x + 53) S s_kr1 := zDA.fr xS F_kr1 (by intro q h1 h2 h3; (try simp only [zIn, zJf] at h3); omega)
  have kR12 : zHi (x + 75) m U s_kr1 := zHi.fr xH F_kr1 (by intro q h1 h2 h3; (try simp only [zIn, zJf] at h3); omega)
  have kF13 := zFr.tr zFr.rf (P := zXr x) F_kr1 (by intro q hq; (try simp only [zIn, zJf, zXr] at hq); unfold zXr; omega)
  obtain rfl := e_kr1.symm
  exact zr_ireturn dX9_feed_29 rfl (rfl) (⟨_, rfl, rfl, kF13, ⟨_, _, kh2, kR5, kR10, wK, kR11, kR12, ⟨kh3, kR6, kR7, kR8, kR9⟩, r0_kr1, kh4, lL⟩⟩)

set_option maxHeartbeats 400000 in
set_option maxRecDepth 100000 in
theorem qX9_feedN {X : zX} (hX : X.1.stackTraces = false) {σ : zS} {x : Nat} {A S : zDk} {m : Nat} {U : Nat → zDk} {n : Nat} {T : Nat → Int32} {ll : Nat} {ln : Nat → Int32} {hs kf ld dt dc : Int32} {c : Int32} (hC : zKt x A S m U n T ll ln hs kf ld dt dc σ) (hA : zDw A) (hn60 : ¬ n < 60) (hN : σ.2 = none) : zMet X mX9_feed yX9_feed 7 1 6 [.ref x, .int c] σ (fun o s => o = .inr "java/lang/IllegalStateException" ∧ s = σ) := by
  refine zMet_of (ls := [some (.ref x), some (.int c)]) rfl (by decide +kernel) rfl (fun h => by cases h) hX (Nat.le_of_ble_eq_true rfl) rfl ?_
  obtain ⟨K, lf, xo, xA, xK, wK, xS, xH, xJ, xT, xL, lL⟩ := id hC
  obtain ⟨hj, jr, jk, jc, jo⟩ := id xJ
  obtain ⟨hC8, hP8, hW⟩ := id hA
  refine zr_aload_n dX9_feed_0 rfl ?_
  refine zr_getfield dX9_feed_1 fX9_52 xo rfl (by decide) ?_
  refine zr_pVi [] dX9_feed_4 vX9_283 (qX7_isFull hX xT) (zSk.obj xT).choose_spec (by decide) (by decide) (by decide) rfl rfl (Nat.le_of_ble_eq_true rfl) (by decide) rfl ?_
  refine zr_if_eq (tgt := 21) dX9_feed_7 (by decide) (fun c_7 => absurd c_7 (by rw [if_neg hn60]; decide)) (fun c_7 => ?_)
  exact zr_thrW dX9_feed_10 dX9_feed_13 dX9_feed_14 dX9_feed_17 dX9_feed_20 thX9_287_289 rfl (by decide) (by decide) (by decide) (by decide) (⟨rfl, zNN hN⟩)

set_option maxHeartbeats 400000 in
set_option maxRecDepth 100000 in
theorem qX9_undoCount {X : zX} (hX : X.1.stackTraces = false) {σ : zS} {x : Nat} {A S : zDk} {m : Nat} {U : Nat → zDk} {n : Nat} {T : Nat → Int32} {ll : Nat} {ln : Nat → Int32} {hs kf ld dt dc : Int32} (hC : zKt x A S m U n T ll ln hs kf ld dt dc σ) (hA : zDw A)  : zMet X mX9_undoCount yX9_undoCount 7 0 0 [.ref x] σ (zI (fun y_ s_ => y_ = nI m ∧ s_ = σ)) := by
  refine zMet_of (ls := [some (.ref x)]) rfl (by decide +kernel) rfl (fun h => by cases h) hX (Nat.le_of_ble_eq_true rfl) rfl ?_
  obtain ⟨K, lf, xo, xA, xK, wK, xS, xH, xJ, xT, xL, lL⟩ := id hC
  obtain ⟨hj, jr, jk, jc, jo⟩ := id xJ
  obtain ⟨hC8, hP8, hW⟩ := id hA
  refine zr_aload_n dX9_undoCount_0 rfl ?_
  refine zr_getfield dX9_undoCount_1 fX9_38 xo rfl (by decide) ?_
  obtain ⟨nx1, hq1⟩ := zHi.obj xH
  refine zr_getfield dX9_undoCount_4 fX9_367 hq1 rfl (by decide) ?_
  exact zr_ireturn dX9_undoCount_7 rfl (rfl) (⟨_, rfl, rfl, rfl⟩)

set_option maxHeartbeats 400000 in
set_option maxRecDepth 100000 in
theorem qX9_undo {X : zX} (hX : X.1.stackTraces = false) {σ : zS} {x : Nat} {A S : zDk} {m : Nat} {U : Nat → zDk} {n : Nat} {T : Nat → Int32} {ll : Nat} {ln : Nat → Int32} {hs kf ld dt dc : Int32} (hC : zKt x A S m U n T ll ln hs kf ld dt dc σ) (hA : zDw A) (hm0 : 0 < m) (hm8 : m ≤ 8) : zMet X mX9_undo yX9_undo 8 0 0 [.ref x] σ (zI (fun y_ s => y_ = nI (m - 1) ∧ zFr σ s (zXr x) ∧ zKt x (U 0) S (m - 1) (fun t => U (t + 1)) n T ll ln hs kf ld dt dc s)) := by
  refine zMet_of (ls := [some (.ref x)]) rfl (by decide +kernel) rfl (fun h => by cases h) hX (Nat.le_of_ble_eq_true rfl) rfl ?_
  obtain ⟨K, lf, xo, xA, xK, wK, xS, xH, xJ, xT, xL, lL⟩ := id hC
  obtain ⟨hj, jr, jk, jc, jo⟩ := id xJ
  obtain ⟨hC8, hP8, hW⟩ := id hA
  refine zr_aload_n dX9_undo_0 rfl ?_
  refine zr_getfield dX9_undo_1 fX9_38 xo rfl (by decide) ?_
  obtain ⟨nx1, hq1⟩ := zHi.obj xH
  refine zr_getfield dX9_undo_4 fX9_367 hq1 rfl (by decide) ?_
  refine zr_if_ne (tgt := 21) dX9_undo_7 (by decide) (fun c_7 => ?_) (fun c_7 => absurd c_7 (fun h => absurd ((nI_eq (a := m) (b := 0) (by omega) (by omega)).mp h) (by omega)))
  refine zr_aload_n dX9_undo_21 rfl ?_
  refine zr_getfield dX9_undo_22 fX9_38 xo rfl (by decide) ?_
  refine zr_aload_n dX9_undo_25 rfl ?_
  refine zr_getfield dX9_undo_26 fX9_20 xo rfl (by decide) ?_
  refine zr_callVv [] dX9_undo_29 vX9_370 (qX4_takeBack hX xH xA (by omega) hm0) hq1 (by decide) (by decide) (by decide) rfl rfl (Nat.le_of_ble_eq_true rfl) (by decide) rfl (fun s_kr2 h_kr2 => ?_)
  obtain ⟨F_kr2, r0_kr2, r1_kr2⟩ := h_kr2
  have kh3 : s_kr2.1 x = .inr (7, [.ref ((x + 1)), .ref ((x + 2)), .ref ((x + 24)), .ref ((x + 31)), .ref ((x + 53)), .ref ((x + 75)), .ref ((x + 253)), .ref ((x + 255)), .ref ((x + 260)), .int (nI ll), .int hs, .int kf, .int ld, .int dt, .int dc]) := zFr.get F_kr2 (by omega) xo
  have kh4 : s_kr2.1 (x + 1) = .inr (3, [.ref ((x + 2)), .ref ((x + 24)), .ref ((x + 27)), .ref ((x + 29))]) := zFr.get F_kr2 (by omega) hj
  have kh5 : s_kr2.1 (x + 260) = .inl (1, 400, .inl lf) := zFr.get F_kr2 (by omega) xL
  have kR6 : zRx (x + 24) s_kr2 := zRx.fr jr F_kr2 (by intro q h1 h2 h3; (try simp only [zIn, zJf] at h3); omega)
  have kR7 : zCu (x + 253) s_kr2 := zCu.fr jk F_kr2 (by intro q h1 h2 h3; (try simp only [zIn, zJf] at h3); omega)
  have kR8 : zCu (x + 27) s_kr2 := zCu.fr jc F_kr2 (by intro q h1 h2 h3; (try simp only [zIn, zJf] at h3); omega)
  have kR9 : zCu (x + 29) s_kr2 := zCu.fr jo F_kr2 (by intro q h1 h2 h3; (try simp only [zIn, zJf] at h3); omega)
  have kR10 : zDA (x + 31) K s_kr2 := zDA.fr xK F_kr2 (by intro q h1 h2 h3; (try simp only [zIn, zJf] at h3); omega)
  have kR11 : zDA (x + 53) S s_kr2 := zDA.fr xS F_kr2 (by intro q h1 h2 h3; (try simp only [zIn, zJf] at h3); omega)
  have kR12 : zSk (x + 255) n T s_kr2 := zSk.fr xT F_kr2 (by intro q h1 h2 h3; (try simp only [zIn, zJf] at h3); omega)
  have kF13 := zFr.tr zFr.rf (P := zXr x) F_kr2 (by intro q hq; (try simp only [zIn, zJf, zXr] at hq); unfold zXr; omega)
  refine zr_aload_n dX9_undo_32 rfl ?_
  refine zr_getfield dX9_undo_33 fX9_38 kh3 rfl (by decide) ?_
  obtain ⟨nx14, hq14⟩ := zHi.obj r1_kr2
  refine zr_getfield dX9_undo_36 fX9_367 hq14 rfl (by decide) ?_
  exact zr_ireturn dX9_undo_39 rfl (rfl) (⟨_, rfl, rfl, kF13, ⟨_, _, kh3, r0_kr2, kR10, wK, kR11, r1_kr2, ⟨kh4, kR6, kR7, kR8, kR9⟩, kR12, kh5, lL⟩⟩)

set_option maxHeartbeats 400000 in
set_option maxRecDepth 100000 in
theorem qX9_undoN {X : zX} (hX : X.1.stackTraces = false) {σ : zS} {x : Nat} {A S : zDk} {m : Nat} {U : Nat → zDk} {n : Nat} {T : Nat → Int32} {ll : Nat} {ln : Nat → Int32} {hs kf ld dt dc : Int32} (hC : zKt x A S m U n T ll ln hs kf ld dt dc σ) (hA : zDw A) (hm0 : m = 0) (hN : σ.2 = none) : zMet X mX9_undo yX9_undo 7 1 6 [.ref x] σ (fun o s => o = .inr "java/lang/IllegalStateException" ∧ s = σ) := by
  refine zMet_of (ls := [some (.ref x)]) rfl (by decide +kernel) rfl (fun h => by cases h) hX (Nat.le_of_ble_eq_true rfl) rfl ?_
  obtain ⟨K, lf, xo, xA, xK, wK, xS, xH, xJ, xT, xL, lL⟩ := id hC
  obtain ⟨hj, jr, jk, jc, jo⟩ := id xJ
  obtain ⟨hC8, hP8, hW⟩ := id hA
  refine zr_aload_n dX9_undo_0 rfl ?_
  refine zr_getfield dX9_undo_1 fX9_38 xo rfl (by decide) ?_
  obtain ⟨nx1, hq1⟩ := zHi.obj xH
  refine zr_getfield dX9_undo_4 fX9_367 hq1 rfl (by decide) ?_
  refine zr_if_ne (tgt := 21) dX9_undo_7 (by decide) (fun c_7 => absurd ((nI_eq (a := m) (b := 0) (by omega) (by omega)).mpr (by omega)) c_7) (fun c_7 => ?_)
  exact zr_thrW dX9_undo_10 dX9_undo_13 dX9_undo_14 dX9_undo_17 dX9_undo_20 thX9_287_368 rfl (by decide) (by decide) (by decide) (by decide) (⟨rfl, zNN hN⟩)

set_option maxHeartbeats 400000 in
set_option maxRecDepth 100000 in
theorem qX9_saveSnapshot {X : zX} (hX : X.1.stackTraces = false) {σ : zS} {x : Nat} {A S : zDk} {m : Nat} {U : Nat → zDk} {n : Nat} {T : Nat → Int32} {ll : Nat} {ln : Nat → Int32} {hs kf ld dt dc : Int32} (hC : zKt x A S m U n T ll ln hs kf ld dt dc σ) (hA : zDw A)  : zMet X mX9_saveSnapshot yX9_saveSnapshot 8 0 0 [.ref x] σ (zI (fun y_ s => y_ = nI (kC A) ∧ zFr σ s (zXr x) ∧ zKt x A A m U n T ll ln 1 kf ld dt dc s)) := by
  refine zMet_of (ls := [some (.ref x)]) rfl (by decide +kernel) rfl (fun h => by cases h) hX (Nat.le_of_ble_eq_true rfl) rfl ?_
  obtain ⟨K, lf, xo, xA, xK, wK, xS, xH, xJ, xT, xL, lL⟩ := id hC
  obtain ⟨hj, jr, jk, jc, jo⟩ := id xJ
  obtain ⟨hC8, hP8, hW⟩ := id hA
  refine zr_aload_n dX9_saveSnapshot_0 rfl ?_
  refine zr_getfield dX9_saveSnapshot_1 fX9_32 xo rfl (by decide) ?_
  refine zr_aload_n dX9_saveSnapshot_4 rfl ?_
  refine zr_getfield dX9_saveSnapshot_5 fX9_20 xo rfl (by decide) ?_
  refine zr_callVv [] dX9_saveSnapshot_8 vX9_306 (qX3_copyFrom hX xS xA hA (by omega)) (zDA.obj xS) (by decide) (by decide) (by decide) rfl rfl (Nat.le_of_ble_eq_true rfl) (by decide) rfl (fun s_kr1 h_kr1 => ?_)
  obtain ⟨F_kr1, r0_kr1⟩ := h_kr1
  have kh2 : s_kr1.1 x = .inr (7, [.ref ((x + 1)), .ref ((x + 2)), .ref ((x + 24)), .ref ((x + 31)), .ref ((x + 53)), .ref ((x + 75)), .ref ((x + 253)), .ref ((x + 255)), .ref ((x + 260)), .int (nI ll), .int hs, .int kf, .int ld, .int dt, .int dc]) := zFr.get F_kr1 (by (try simp only [zIn]); omega) xo
  have kh3 : s_kr1.1 (x + 1) = .inr (3, [.ref ((x + 2)), .ref ((x + 24)), .ref ((x + 27)), .ref ((x + 29))]) := zFr.get F_kr1 (by (try simp only [zIn]); omega) hj
  have kh4 : s_kr1.1 (x + 260) = .inl (1, 400, .inl lf) := zFr.get F_kr1 (by (try simp only [zIn]); omega) xL
  have kR5 : zDA (x + 2) A s_kr1 := zDA.fr xA F_kr1 (by intro q h1 h2 h3; (try simp only [zIn, zJf] at h3); omega)
  have kR6 : zRx (x + 24) s_kr1 := zRx.fr jr F_kr1 (by intro q h1 h2 h3; (try simp only [zIn, zJf] at h3); omega)
  have kR7 : zCu (x + 253) s_kr1 := zCu.fr jk F_kr1 (by intro q h1 h2 h3; (try simp only [zIn, zJf] at h3); omega)
  have kR8 : zCu (x + 27) s_kr1 := zCu.fr jc F_kr1 (by intro q h1 h2 h3; (try simp only [zIn, zJf] at h3); omega)
  have kR9 : zCu (x + 29) s_kr1 := zCu.fr jo F_kr1 (by intro q h1 h2 h3; (try simp only [zIn, zJf] at h3); omega)
  have kR10 : zDA (x + 31) K s_kr1 := zDA.fr xK F_kr1 (by intro q h1 h2 h3; (try simp only [zIn, zJf] at h3); omega)
  have kR11 : zHi (x + 75) m U s_kr1 := zHi.fr xH F_kr1 (by intro q h1 h2 h3; (try simp only [zIn, zJf] at h3); omega)
  have kR12 : zSk (x + 255) n T s_kr1 := zSk.fr xT F_kr1 (by intro q h1 h2 h3; (try simp only [zIn, zJf] at h3); omega)
  have kF13 := zFr.tr zFr.rf (P := zXr x) F_kr1 (by intro q hq; (try simp only [zIn, zJf, zXr] at hq); unfold zXr; omega)
  refine zr_aload_n dX9_saveSnapshot_11 rfl ?_
  refine zr_iconst (v := 1) dX9_saveSnapshot_12 (by decide) ?_
  refine zr_putfield (fs' := [.ref ((x + 1)), .ref ((x + 2)), .ref ((x + 24)), .ref ((x + 31)), .ref ((x + 53)), .ref ((x + 75)), .ref ((x + 253)), .ref ((x + 255)), .ref ((x + 260)), .int (nI ll), .int 1, .int kf, .int ld, .int dt, .int dc]) dX9_saveSnapshot_13 pX9_64 kh2 (by decide) (rfl) (rfl) (Nat.le_of_ble_eq_true rfl) rfl ?_
  refine zr_sig (fun ks14 e_ks14 => ?_)
  have kh15 : ks14.1 x = .inr (7, [.ref ((x + 1)), .ref ((x + 2)), .ref ((x + 24)), .ref ((x + 31)), .ref ((x + 53)), .ref ((x + 75)), .ref ((x + 253)), .ref ((x + 255)), .ref ((x + 260)), .int (nI ll), .int 1, .int kf, .int ld, .int dt, .int dc]) := by rw [e_ks14]; exact zup_at _ _ _
  have kh16 : ks14.1 (x + 1) = .inr (3, [.ref ((x + 2)), .ref ((x + 24)), .ref ((x + 27)), .ref ((x + 29))]) := by rw [e_ks14, zup_ne _ _ (by omega)]; exact kh3
  have kh17 : ks14.1 (x + 260) = .inl (1, 400, .inl lf) := by rw [e_ks14, zup_ne _ _ (by omega)]; exact kh4
  have kF18 := zFr.put kF13 e_ks14 (by unfold zXr; omega)
  have kR19 : zDA (x + 2) A ks14 := zDA.fr kR5 (zFr.put (P := fun q => q = x) zFr.rf e_ks14 rfl) (by intro q h1 h2 h3; (try simp only [zIn, zJf] at h3); omega)
  have kR20 : zRx (x + 24) ks14 := zRx.fr kR6 (zFr.put (P := fun q => q = x) zFr.rf e_ks14 rfl) (by intro q h1 h2 h3; (try simp only [zIn, zJf] at h3); omega)
  have kR21 : zCu (x + 253) ks14 := zCu.fr kR7 (zFr.put (P := fun q => q = x) zFr.rf e_ks14 rfl) (by intro q h1 h2 h3; (try simp only [zIn, zJf] at h3); omega)
  have kR22 : zCu (x + 27) ks14 := zCu.fr kR8 (zFr.put (P := fun q => q = x) zFr.rf e_ks14 rfl) (by intro q h1 h2 h3; (try simp only [zIn, zJf] at h3); omega)
  have kR23 : zCu (x + 29) ks14 := zCu.fr kR9 (zFr.put (P := fun q => q = x) zFr.rf e_ks14 rfl) (by intro q h1 h2 h3; (try simp only [zIn, zJf] at h3); omega)
  have kR24 : zDA (x + 31) K ks14 := zDA.fr kR10 (zFr.put (P := fun q => q = x) zFr.rf e_ks14 rfl) (by intro q h1 h2 h3; (try simp only [zIn, zJf] at h3); omega)
  have kR25 : zDA (x + 53) A ks14 := zDA.fr r0_kr1 (zFr.put (P := fun q => q = x) zFr.rf e_ks14 rfl) (by intro q h1 h2 h3; (try simp only [zIn, zJf] at h3); omega)
  have kR26 : zHi (x + 75) m U ks14 := zHi.fr kR11 (zFr.put (P := fun q => q = x) zFr.rf e_ks14 rfl) (by intro q h1 h2 h3; (try simp only [zIn, zJf] at h3); omega)
  have kR27 : zSk (x + 255) n T ks14 := zSk.fr kR12 (zFr.put (P := fun q => q = x) zFr.rf e_ks14 rfl) (by intro q h1 h2 h3; (try simp only [zIn, zJf] at h3); omega)
  refine zr_aload_n dX9_saveSnapshot_16 rfl ?_
  refine zr_getfield dX9_saveSnapshot_17 fX9_20 kh15 rfl (by decide) ?_
  obtain ⟨wr28, rr28, mr28, tr28, ar28, fr28, ca28, cb28, cc28, cd28, ce28, cf28, cw28⟩ := id kR19
  refine zr_getfield dX9_saveSnapshot_20 fX9_147 ca28 rfl (by decide) ?_
  exact zr_ireturn dX9_saveSnapshot_23 rfl (rfl) (⟨_, rfl, rfl, kF18, ⟨_, _, kh15, kR19, kR24, wK, kR25, kR26, ⟨kh16, kR20, kR21, kR22, kR23⟩, kR27, kh17, lL⟩⟩)

def zHi0 (b : Nat) (σ : zS) : Prop := ∀ S1, zHi b 0 S1 σ
theorem zHi0.fr {b : Nat} {σ s : zS} {P : Nat → Prop} (h : zHi0 b σ) (F : zFr σ s P) (hp : ∀ q, b ≤ q → q < b + 178 → ¬ P q) : zHi0 b s := fun S1 => (h S1).fr F hp
set_option maxHeartbeats 400000 in
set_option maxRecDepth 100000 in
theorem qX9_restoreSnapshot {X : zX} (hX : X.1.stackTraces = false) {σ : zS} {x : Nat} {A S : zDk} {m : Nat} {U : Nat → zDk} {n : Nat} {T : Nat → Int32} {ll : Nat} {ln : Nat → Int32} {hs kf ld dt dc : Int32} (hC : zKt x A S m U n T ll ln hs kf ld dt dc σ) (hA : zDw A) (hhs : ¬ hs = 0) (hSw : zDw S) : zMet X mX9_restoreSnapshot yX9_restoreSnapshot 8 0 0 [.ref x] σ (zI (fun y_ s => y_ = nI (kC S) ∧ zFr σ s (zXr x) ∧ zKt x S S 0 U n T ll ln hs kf ld dt dc s)) := by
  refine zMet_of (ls := [some (.ref x)]) rfl (by decide +kernel) rfl (fun h => by cases h) hX (Nat.le_of_ble_eq_true rfl) rfl ?_
  obtain ⟨K, lf, xo, xA, xK, wK, xS, xH, xJ, xT, xL, lL⟩ := id hC
  obtain ⟨hj, jr, jk, jc, jo⟩ := id xJ
  obtain ⟨hC8, hP8, hW⟩ := id hA
  refine zr_aload_n dX9_restoreSnapshot_0 rfl ?_
  refine zr_getfield dX9_restoreSnapshot_1 fX9_64 xo rfl (by decide) ?_
  refine zr_if_ne (tgt := 18) dX9_restoreSnapshot_4 (by decide) (fun c_4 => ?_) (fun c_4 => absurd c_4 (hhs))
  refine zr_aload_n dX9_restoreSnapshot_18 rfl ?_
  refine zr_getfield dX9_restoreSnapshot_19 fX9_20 xo rfl (by decide) ?_
  refine zr_aload_n dX9_restoreSnapshot_22 rfl ?_
  refine zr_getfield dX9_restoreSnapshot_23 fX9_32 xo rfl (by decide) ?_
  refine zr_callVv [] dX9_restoreSnapshot_26 vX9_306 (qX3_copyFrom hX xA xS hSw (by omega)) (zDA.obj xA) (by decide) (by decide) (by decide) rfl rfl (Nat.le_of_ble_eq_true rfl) (by decide) rfl (fun s_kr1 h_kr1 => ?_)
  obtain ⟨F_kr1, r0_kr1⟩ := h_kr1
  have kh2 : s_kr1.1 x = .inr (7, [.ref ((x + 1)), .ref ((x + 2)), .ref ((x + 24)), .ref ((x + 31)), .ref ((x + 53)), .ref ((x + 75)), .ref ((x + 253)), .ref ((x + 255)), .ref ((x + 260)), .int (nI ll), .int hs, .int kf, .int ld, .int dt, .int dc]) := zFr.get F_kr1 (by (try simp only [zIn]); omega) xo
  have kh3 : s_kr1.1 (x + 1) = .inr (3, [.ref ((x + 2)), .ref ((x + 24)), .ref ((x + 27)), .ref ((x + 29))]) := zFr.get F_kr1 (by (try simp only [zIn]); omega) hj
  have kh4 : s_kr1.1 (x + 260) = .inl (1, 400, .inl lf) := zFr.get F_kr1 (by (try simp only [zIn]); omega) xL
  have kR5 : zRx (x + 24) s_kr1 := zRx.fr jr F_kr1 (by intro q h1 h2 h3; (try simp only [zIn, zJf] at h3); omega)
  have kR6 : zCu (x + 253) s_kr1 := zCu.fr jk F_kr1 (by intro q h1 h2 h3; (try simp only [zIn, zJf] at h3); omega)
  have kR7 : zCu (x + 27) s_kr1 := zCu.fr jc F_kr1 (by intro q h1 h2 h3; (try simp only [zIn, zJf] at h3); omega)
  have kR8 : zCu (x + 29) s_kr1 := zCu.fr jo F_kr1 (by intro q h1 h2 h3; (try simp only [zIn, zJf] at h3); omega)
  have kR9 : zDA (x + 31) K s_kr1 := zDA.fr xK F_kr1 (by intro q h1 h2 h3; (try simp only [zIn, zJf] at h3); omega)
  have kR10 : zDA (x + 53) S s_kr1 := zDA.fr xS F_kr1 (by intro q h1 h2 h3; (try simp only [zIn, zJf] at h3); omega)
  have kR11 : zHi (x + 75) m U s_kr1 := zHi.fr xH F_kr1 (by intro q h1 h2 h3; (try simp only [zIn, zJf] at h3); omega)
  have kR12 : zSk (x + 255) n T s_kr1 := zSk.fr xT F_kr1 (by intro q h1 h2 h3; (try simp only [zIn, zJf] at h3); omega)
  have kF13 := zFr.tr zFr.rf (P := zXr x) F_kr1 (by intro q hq; (try simp only [zIn, zJf, zXr] at hq); unfold zXr; omega)
  refine zr_aload_n dX9_restoreSnapshot_29 rfl ?_
  refine zr_getfield dX9_restoreSnapshot_30 fX9_38 kh2 rfl (by decide) ?_
  refine zr_callVv [] dX9_restoreSnapshot_33 vX9_375 (qX4_forget hX kR11) (zHi.obj kR11).choose_spec (by decide) (by decide) (by decide) rfl rfl (Nat.le_of_ble_eq_true rfl) (by decide) rfl (fun s_kr14 h_kr14 => ?_)
  obtain ⟨F_kr14, r0_kr14⟩ := h_kr14
  have kh15 : s_kr14.1 x = .inr (7, [.ref ((x + 1)), .ref ((x + 2)), .ref ((x + 24)), .ref ((x + 31)), .ref ((x + 53)), .ref ((x + 75)), .ref ((x + 253)), .ref ((x + 255)), .ref ((x + 260)), .int (nI ll), .int hs, .int kf, .int ld, .int dt, .int dc]) := zFr.get F_kr14 (by omega) kh2
  have kh16 : s_kr14.1 (x + 1) = .inr (3, [.ref ((x + 2)), .ref ((x + 24)), .ref ((x + 27)), .ref ((x + 29))]) := zFr.get F_kr14 (by omega) kh3
  have kh17 : s_kr14.1 (x + 260) = .inl (1, 400, .inl lf) := zFr.get F_kr14 (by omega) kh4
  have kR18 : zDA (x + 2) S s_kr14 := zDA.fr r0_kr1 F_kr14 (by intro q h1 h2 h3; (try simp only [zIn, zJf] at h3); omega)
  have kR19 : zRx (x + 24) s_kr14 := zRx.fr kR5 F_kr14 (by intro q h1 h2 h3; (try simp only [zIn, zJf] at h3); omega)
  have kR20 : zCu (x + 253) s_kr14 := zCu.fr kR6 F_kr14 (by intro q h1 h2 h3; (try simp only [zIn, zJf] at h3); omega)
  have kR21 : zCu (x + 27) s_kr14 := zCu.fr kR7 F_kr14 (by intro q h1 h2 h3; (try simp only [zIn, zJf] at h3); omega)
  have kR22 : zCu (x + 29) s_kr14 := zCu.fr kR8 F_kr14 (by intro q h1 h2 h3; (try simp only [zIn, zJf] at h3); omega)
  have kR23 : zDA (x + 31) K s_kr14 := zDA.fr kR9 F_kr14 (by intro q h1 h2 h3; (try simp only [zIn, zJf] at h3); omega)
  have kR24 : zDA (x + 53) S s_kr14 := zDA.fr kR10 F_kr14 (by intro q h1 h2 h3; (try simp only [zIn, zJf] at h3); omega)
  have kR25 : zSk (x + 255) n T s_kr14 := zSk.fr kR12 F_kr14 (by intro q h1 h2 h3; (try simp only [zIn, zJf] at h3); omega)
  have kF26 := zFr.tr kF13 F_kr14 (by intro q hq; (try simp only [zIn, zJf, zXr] at hq); unfold zXr; omega)
  refine zr_aload_n dX9_restoreSnapshot_36 rfl ?_
  refine zr_getfield dX9_restoreSnapshot_37 fX9_20 kh15 rfl (by decide) ?_
  obtain ⟨wr27, rr27, mr27, tr27, ar27, fr27, ca27, cb27, cc27, cd27, ce27, cf27, cw27⟩ := id kR18
  refine zr_getfield dX9_restoreSnapshot_40 fX9_147 ca27 rfl (by decide) ?_
  exact zr_ireturn dX9_restoreSnapshot_43 rfl (rfl) (⟨_, rfl, rfl, kF26, ⟨_, _, kh15, kR18, kR23, wK, kR24, (r0_kr14 U), ⟨kh16, kR19, kR20, kR21, kR22⟩, kR25, kh17, lL⟩⟩)

set_option maxHeartbeats 400000 in
set_option maxRecDepth 100000 in
theorem qX9_restoreSnapshotN {X : zX} (hX : X.1.stackTraces = false) {σ : zS} {x : Nat} {A S : zDk} {m : Nat} {U : Nat → zDk} {n : Nat} {T : Nat → Int32} {ll : Nat} {ln : Nat → Int32} {hs kf ld dt dc : Int32} (hC : zKt x A S m U n T ll ln hs kf ld dt dc σ) (hA : zDw A) (hhs : hs = 0) (hN : σ.2 = none) : zMet X mX9_restoreSnapshot yX9_restoreSnapshot 7 1 6 [.ref x] σ (fun o s => o = .inr "java/lang/IllegalStateException" ∧ s = σ) := by
  refine zMet_of (ls := [some (.ref x)]) rfl (by decide +kernel) rfl (fun h => by cases h) hX (Nat.le_of_ble_eq_true rfl) rfl ?_
  obtain ⟨K, lf, xo, xA, xK, wK, xS, xH, xJ, xT, xL, lL⟩ := id hC
  obtain ⟨hj, jr, jk, jc, jo⟩ := id xJ
  obtain ⟨hC8, hP8, hW⟩ := id hA
  refine zr_aload_n dX9_restoreSnapshot_0 rfl ?_
  refine zr_getfield dX9_restoreSnapshot_1 fX9_64 xo rfl (by decide) ?_
  refine zr_if_ne (tgt := 18) dX9_restoreSnapshot_4 (by decide) (fun c_4 => absurd (hhs) c_4) (fun c_4 => ?_)
  exact zr_thrW dX9_restoreSnapshot_7 dX9_restoreSnapshot_10 dX9_restoreSnapshot_11 dX9_restoreSnapshot_14 dX9_restoreSnapshot_17 thX9_287_373 rfl (by decide) (by decide) (by decide) (by decide) (⟨rfl, zNN hN⟩)

