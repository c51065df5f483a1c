theorem nar_01 {x : Int32} (h : x = 0 ∨ x = 1) : narrow .boolean (.int x) = .int x := by rcases h with rfl | rfl <;> rfl
theorem nar_ite2 {p : Prop} [Decidable p] : narrow .boolean (.int (if p then 0 else 1)) = .int (if p then 0 else 1) := by split <;> rfl
theorem nar_zvt (A : zDk) (i : Nat) : narrow .boolean (.int (zvt A i)) = .int (zvt A i) := by unfold zvt; (repeat' split) <;> rfl
set_option maxHeartbeats 400000 in
set_option maxRecDepth 100000 in
theorem qX9_caseCount {X : zX} (hX : X.1.stackTraces = false) {σ : zS} {x : Nat} {A S : zDk} {m : Nat} {U : Nat → zDk} {n : Nat} {T : Nat → Int32} {ll : Nat} {ln : Nat → Int32} {hs kf ld dt dc : Int32} (hC : zKt x A S m U n T ll ln hs kf ld dt dc σ) (hA : zDw A)  : zMet X mX9_caseCount yX9_caseCount 0 0 0 [.ref x] σ (zI (fun y_ s_ => y_ = nI (kC A) ∧ s_ = σ)) := by
  refine zMet_of (ls := [some (.ref x)]) rfl (by decide +kernel) rfl (fun h => by cases h) hX (Nat.le_of_ble_eq_true rfl) rfl ?_
  obtain ⟨K, lf, xo, xA, xK, wK, xS, xH, xJ, xT, xL, lL⟩ := id hC
  obtain ⟨hj, jr, jk, jc, jo⟩ := id xJ
  obtain ⟨hC8, hP8, hW⟩ := id hA
  refine zr_aload_n dX9_caseCount_0 rfl ?_
  refine zr_getfield dX9_caseCount_1 fX9_20 xo rfl (by decide) ?_
  obtain ⟨wr1, rr1, mr1, tr1, ar1, fr1, ca1, cb1, cc1, cd1, ce1, cf1, cw1⟩ := id xA
  refine zr_getfield dX9_caseCount_4 fX9_147 ca1 rfl (by decide) ?_
  exact zr_ireturn dX9_caseCount_7 rfl (rfl) (⟨_, rfl, rfl, rfl⟩)

set_option maxHeartbeats 400000 in
set_option maxRecDepth 100000 in
theorem qX9_wordLength {X : zX} (hX : X.1.stackTraces = false) {σ : zS} {x : Nat} {A S : zDk} {m : Nat} {U : Nat → zDk} {n : Nat} {T : Nat → Int32} {ll : Nat} {ln : Nat → Int32} {hs kf ld dt dc : Int32} {i : Nat} (hC : zKt x A S m U n T ll ln hs kf ld dt dc σ) (hA : zDw A) (hi : i < kC A) : zMet X mX9_wordLength yX9_wordLength 7 0 0 [.ref x, .int (nI i)] σ (zI (fun y_ s_ => y_ = nI (kN A i) ∧ s_ = σ)) := by
  refine zMet_of (ls := [some (.ref x), some (.int (nI i))]) rfl (by decide +kernel) rfl (fun h => by cases h) hX (Nat.le_of_ble_eq_true rfl) rfl ?_
  obtain ⟨K, lf, xo, xA, xK, wK, xS, xH, xJ, xT, xL, lL⟩ := id hC
  obtain ⟨hj, jr, jk, jc, jo⟩ := id xJ
  obtain ⟨hC8, hP8, hW⟩ := id hA
  refine zr_aload_n dX9_wordLength_0 rfl ?_
  refine zr_iload_n dX9_wordLength_1 rfl ?_
  refine zr_callVv [] dX9_wordLength_2 vX9_94 (qX9_requireCase hX (i := i) hC hA (by omega)) xo (by decide) (by decide) (by decide) rfl rfl (Nat.le_of_ble_eq_true rfl) (by decide) rfl (fun s_ h_ => ?_)
  rw [h_]; clear h_
  refine zr_aload_n dX9_wordLength_5 rfl ?_
  refine zr_getfield dX9_wordLength_6 fX9_20 xo rfl (by decide) ?_
  obtain ⟨wr1, rr1, mr1, tr1, ar1, fr1, ca1, cb1, cc1, cd1, ce1, cf1, cw1⟩ := id xA
  refine zr_getfield dX9_wordLength_9 fX9_112 ca1 rfl (by decide) ?_
  refine zr_iload_n dX9_wordLength_12 rfl ?_
  refine zr_aaload6 (b := (x + 2 + 6 + 2 * i)) dX9_wordLength_13 cb1 (vp_in_nI (n := i) (by omega) (by omega)) (by rw [nI_clamp (by omega)]; exact (cw1 i (by omega)).1) ?_
  obtain ⟨we2, wg2, wc2, wl2, wm2⟩ := cw1 i (by omega)
  refine zr_getfield dX9_wordLength_14 fX9_121 wc2 rfl (by decide) ?_
  exact zr_ireturn dX9_wordLength_17 rfl (rfl) (⟨_, rfl, rfl, rfl⟩)

set_option maxHeartbeats 400000 in
set_option maxRecDepth 100000 in
theorem qX9_wordLengthX {X : zX} (hX : X.1.stackTraces = false) {σ : zS} {x : Nat} {A S : zDk} {m : Nat} {U : Nat → zDk} {n : Nat} {T : Nat → Int32} {ll : Nat} {ln : Nat → Int32} {hs kf ld dt dc : Int32} {p : Int32} (hC : zKt x A S m U n T ll ln hs kf ld dt dc σ) (hA : zDw A) (hno : ¬ (¬ p < 0 ∧ p < nI (kC A))) (hN : σ.2 = none) : zMet X mX9_wordLength yX9_wordLength 7 1 6 [.ref x, .int p] σ (fun o s => o = .inr "java/lang/IndexOutOfBoundsException" ∧ s = σ) := by
  refine zMet_of (ls := [some (.ref x), some (.int p)]) rfl (by decide +kernel) rfl (fun h => by cases h) hX (Nat.le_of_ble_eq_true rfl) rfl ?_
  obtain ⟨K, lf, xo, xA, xK, wK, xS, xH, xJ, xT, xL, lL⟩ := id hC
  obtain ⟨hj, jr, jk, jc, jo⟩ := id xJ
  obtain ⟨hC8, hP8, hW⟩ := id hA
  refine zr_aload_n dX9_wordLength_0 rfl ?_
  refine zr_iload_n dX9_wordLength_1 rfl ?_
  exact zr_callV (rest := []) dX9_wordLength_2 vX9_94 (qX9_requireCaseX hX (p := p) hC hA hno hN) (by decide) (by decide) (by decide) rfl rfl (Nat.le_of_ble_eq_true rfl) xo (by decide) rfl (fun v s h => by cases h.1) (fun E s h => h)

set_option maxHeartbeats 400000 in
set_option maxRecDepth 100000 in
theorem qX9_requirePosition {X : zX} (hX : X.1.stackTraces = false) {σ : zS} {p : Int32} (hp : 1 ≤ p ∧ p ≤ 5) : zMet X mX9_requirePosition yX9_requirePosition 0 0 0 [.int p] σ (zV (fun s_ => s_ = σ)) := by
  refine zMet_of (ls := [some (.int p)]) rfl (by decide +kernel) rfl (fun h => by cases h) hX (Nat.le_of_ble_eq_true rfl) rfl ?_
  refine zr_iload_n dX9_requirePosition_0 rfl ?_
  refine zr_iconst (v := 1) dX9_requirePosition_1 (by decide) ?_
  refine zr_icmp_lt (tgt := 10) dX9_requirePosition_2 (by decide) (fun c_2 => absurd c_2 (Int32.not_lt.mpr hp.1)) (fun c_2 => ?_)
  refine zr_iload_n dX9_requirePosition_5 rfl ?_
  refine zr_iconst (v := 5) dX9_requirePosition_6 (by decide) ?_
  refine zr_icmp_le (tgt := 20) dX9_requirePosition_7 (by decide) (fun c_7 => ?_) (fun c_7 => absurd (hp.2) c_7)
  exact zr_return dX9_requirePosition_20 rfl (⟨rfl, rfl⟩)

set_option maxHeartbeats 400000 in
set_option maxRecDepth 100000 in
theorem qX9_requirePositionX {X : zX} (hX : X.1.stackTraces = false) {σ : zS} {p : Int32} (hp : ¬ (1 ≤ p ∧ p ≤ 5)) (hN : σ.2 = none) : zMet X mX9_requirePosition yX9_requirePosition 6 1 6 [.int p] σ (fun o s => o = .inr "java/lang/IllegalArgumentException" ∧ s = σ) := by
  refine zMet_of (ls := [some (.int p)]) rfl (by decide +kernel) rfl (fun h => by cases h) hX (Nat.le_of_ble_eq_true rfl) rfl ?_
  refine zr_iload_n dX9_requirePosition_0 rfl ?_
  refine zr_iconst (v := 1) dX9_requirePosition_1 (by decide) ?_
  refine zr_icmp_lt (tgt := 10) dX9_requirePosition_2 (by decide) (fun c_2 => ?_) (fun c_2 => ?_)
  · exact zr_thrN dX9_requirePosition_10 dX9_requirePosition_13 dX9_requirePosition_14 dX9_requirePosition_16 dX9_requirePosition_19 thX9_102_152 rfl (by decide) (by decide) (by decide) (by decide) (⟨rfl, zNN hN⟩)
  · refine zr_iload_n dX9_requirePosition_5 rfl ?_
    refine zr_iconst (v := 5) dX9_requirePosition_6 (by decide) ?_
    refine zr_icmp_le (tgt := 20) dX9_requirePosition_7 (by decide) (fun c_7 => ?_) (fun c_7 => ?_)
    · exact absurd ⟨Int32.not_lt.mp c_2, c_7⟩ hp
    · exact zr_thrN dX9_requirePosition_10 dX9_requirePosition_13 dX9_requirePosition_14 dX9_requirePosition_16 dX9_requirePosition_19 thX9_102_152 rfl (by decide) (by decide) (by decide) (by decide) (⟨rfl, zNN hN⟩)

theorem zchr_nar (x : Int32) : narrow .char (.int (zchr x)) = .int (zchr x) := by
  unfold zchr; split <;> exact pk_nc _
set_option maxHeartbeats 400000 in
set_option maxRecDepth 100000 in
theorem qX9_letterAt {X : zX} (hX : X.1.stackTraces = false) {σ : zS} {x : Nat} {A S : zDk} {m : Nat} {U : Nat → zDk} {n : Nat} {T : Nat → Int32} {ll : Nat} {ln : Nat → Int32} {hs kf ld dt dc : Int32} {i j : Nat} (hC : zKt x A S m U n T ll ln hs kf ld dt dc σ) (hA : zDw A) (hi : i < kC A) (hj8 : j < kN A i) : zMet X mX9_letterAt yX9_letterAt 7 0 0 [.ref x, .int (nI i), .int (nI j)] σ (zI (fun y_ s_ => y_ = zchr (kL A i j) ∧ s_ = σ)) := by
  refine zMet_of (ls := [some (.ref x), some (.int (nI i)), some (.int (nI j)), none]) rfl (by decide +kernel) rfl (fun h => by cases h) hX (Nat.le_of_ble_eq_true rfl) rfl ?_
  obtain ⟨K, lf, xo, xA, xK, wK, xS, xH, xJ, xT, xL, lL⟩ := id hC
  obtain ⟨hj, jr, jk, jc, jo⟩ := id xJ
  obtain ⟨hC8, hP8, hW⟩ := id hA
  have h16 := (hW i (by omega)).1
  refine zr_aload_n dX9_letterAt_0 rfl ?_
  refine zr_iload_n dX9_letterAt_1 rfl ?_
  refine zr_callVv [] dX9_letterAt_2 vX9_94 (qX9_requireCase hX (i := i) hC hA (by omega)) xo (by decide) (by decide) (by decide) rfl rfl (Nat.le_of_ble_eq_true rfl) (by decide) rfl (fun s_ h_ => ?_)
  rw [h_]; clear h_
  refine zr_aload_n dX9_letterAt_5 rfl ?_
  refine zr_getfield dX9_letterAt_6 fX9_20 xo rfl (by decide) ?_
  obtain ⟨wr1, rr1, mr1, tr1, ar1, fr1, ca1, cb1, cc1, cd1, ce1, cf1, cw1⟩ := id xA
  refine zr_getfield dX9_letterAt_9 fX9_112 ca1 rfl (by decide) ?_
  refine zr_iload_n dX9_letterAt_12 rfl ?_
  refine zr_aaload6 (b := (x + 2 + 6 + 2 * i)) dX9_letterAt_13 cb1 (vp_in_nI (n := i) (by omega) (by omega)) (by rw [nI_clamp (by omega)]; exact (cw1 i (by omega)).1) ?_
  refine zr_astore_n (ls' := [some (.ref x), some (.int (nI i)), some (.int (nI j)), some (.ref ((x + 2 + 6 + 2 * i)))]) dX9_letterAt_14 rfl (by decide) rfl ?_
  refine zr_iload_n dX9_letterAt_15 rfl ?_
  refine zr_if_lt (tgt := 27) dX9_letterAt_16 (by decide) (fun c_16 => absurd c_16 (fun h => absurd ((nI_ltI (a := j) (b := 0) (by omega) (by omega)).mp h) (by omega))) (fun c_16 => ?_)
  refine zr_iload_n dX9_letterAt_19 rfl ?_
  refine zr_aload_n dX9_letterAt_20 rfl ?_
  obtain ⟨we2, wg2, wc2, wl2, wm2⟩ := cw1 i (by omega)
  refine zr_getfield dX9_letterAt_21 fX9_121 wc2 rfl (by decide) ?_
  refine zr_icmp_lt (tgt := 37) dX9_letterAt_24 (by decide) (fun c_24 => ?_) (fun c_24 => absurd ((nI_ltI (a := j) (b := kN A i) (by omega) (by omega)).mpr (by omega)) c_24)
  refine zr_aload_n dX9_letterAt_37 rfl ?_
  refine zr_getfield dX9_letterAt_38 fX9_155 wc2 rfl (by decide) ?_
  refine zr_iload_n dX9_letterAt_41 rfl ?_
  refine zr_iaload dX9_letterAt_42 wl2 (vp_in_nI (n := j) (by omega) (by omega)) ?_
  rw [nI_clamp (n := j) (by omega)]
  refine zr_eqi (x' := (kL A i j)) (wm2 j hj8) ?_
  refine zr_pSi [] dX9_letterAt_43 vX9_130 (qX9_characterOf hX σ ((kL A i j))) (by decide) (by decide) (by decide) rfl rfl (Nat.le_of_ble_eq_true rfl) rfl ?_
  exact zr_ireturn dX9_letterAt_46 rfl (zchr_nar _) (⟨_, rfl, rfl, rfl⟩)

set_option maxHeartbeats 400000 in
set_option maxRecDepth 100000 in
theorem qX9_letterAtN {X : zX} (hX : X.1.stackTraces = false) {σ : zS} {x : Nat} {A S : zDk} {m : Nat} {U : Nat → zDk} {n : Nat} {T : Nat → Int32} {ll : Nat} {ln : Nat → Int32} {hs kf ld dt dc : Int32} {i : Nat} {p : Int32} (hC : zKt x A S m U n T ll ln hs kf ld dt dc σ) (hA : zDw A) (hi : i < kC A) (hno : ¬ (¬ p < 0 ∧ p < nI (kN A i))) (hN : σ.2 = none) : zMet X mX9_letterAt yX9_letterAt 7 1 6 [.ref x, .int (nI i), .int p] σ (fun o s => o = .inr "java/util/NoSuchElementException" ∧ s = σ) := by
  refine zMet_of (ls := [some (.ref x), some (.int (nI i)), some (.int p), none]) rfl (by decide +kernel) rfl (fun h => by cases h) hX (Nat.le_of_ble_eq_true rfl) rfl ?_
  obtain ⟨K, lf, xo, xA, xK, wK, xS, xH, xJ, xT, xL, lL⟩ := id hC
  obtain ⟨hj, jr, jk, jc, jo⟩ := id xJ
  obtain ⟨hC8, hP8, hW⟩ := id hA
  refine zr_aload_n dX9_letterAt_0 rfl ?_
  refine zr_iload_n dX9_letterAt_1 rfl ?_
  refine zr_callVv [] dX9_letterAt_2 vX9_94 (qX9_requireCase hX (i := i) hC hA (by omega)) xo (by decide) (by decide) (by decide) rfl rfl (Nat.le_of_ble_eq_true rfl) (by decide) rfl (fun s_ h_ => ?_)
  rw [h_]; clear h_
  refine zr_aload_n dX9_letterAt_5 rfl ?_
  refine zr_getfield dX9_letterAt_6 fX9_20 xo rfl (by decide) ?_
  obtain ⟨wr1, rr1, mr1, tr1, ar1, fr1, ca1, cb1, cc1, cd1, ce1, cf1, cw1⟩ := id xA
  refine zr_getfield dX9_letterAt_9 fX9_112 ca1 rfl (by decide) ?_
  refine zr_iload_n dX9_letterAt_12 rfl ?_
  refine zr_aaload6 (b := (x + 2 + 6 + 2 * i)) dX9_letterAt_13 cb1 (vp_in_nI (n := i) (by omega) (by omega)) (by rw [nI_clamp (by omega)]; exact (cw1 i (by omega)).1) ?_
  refine zr_astore_n (ls' := [some (.ref x), some (.int (nI i)), some (.int p), some (.ref ((x + 2 + 6 + 2 * i)))]) dX9_letterAt_14 rfl (by decide) rfl ?_
  refine zr_iload_n dX9_letterAt_15 rfl ?_
  refine zr_if_lt (tgt := 27) dX9_letterAt_16 (by decide) (fun c_16 => ?_) (fun c_16 => ?_)
  · exact zr_thrN dX9_letterAt_27 dX9_letterAt_30 dX9_letterAt_31 dX9_letterAt_33 dX9_letterAt_36 thX9_150_152 rfl (by decide) (by decide) (by decide) (by decide) (⟨rfl, zNN hN⟩)
  · refine zr_iload_n dX9_letterAt_19 rfl ?_
    refine zr_aload_n dX9_letterAt_20 rfl ?_
    obtain ⟨we2, wg2, wc2, wl2, wm2⟩ := cw1 i (by omega)
    refine zr_getfield dX9_letterAt_21 fX9_121 wc2 rfl (by decide) ?_
    refine zr_icmp_lt (tgt := 37) dX9_letterAt_24 (by decide) (fun c_24 => ?_) (fun c_24 => ?_)
    · exact absurd ⟨c_16, c_24⟩ hno
    · exact zr_thrN dX9_letterAt_27 dX9_letterAt_30 dX9_letterAt_31 dX9_letterAt_33 dX9_letterAt_36 thX9_150_152 rfl (by decide) (by decide) (by decide) (by decide) (⟨rfl, zNN hN⟩)

set_option maxHeartbeats 400000 in
set_option maxRecDepth 100000 in
theorem qX9_letterAtX {X : zX} (hX : X.1.stackTraces = false) {σ : zS} {x : Nat} {A S : zDk} {m : Nat} {U : Nat → zDk} {n : Nat} {T : Nat → Int32} {ll : Nat} {ln : Nat → Int32} {hs kf ld dt dc : Int32} {p : Int32} {p2 : Int32} (hC : zKt x A S m U n T ll ln hs kf ld dt dc σ) (hA : zDw A) (hno : ¬ (¬ p < 0 ∧ p < nI (kC A))) (hN : σ.2 = none) : zMet X mX9_letterAt yX9_letterAt 7 1 6 [.ref x, .int p, .int p2] σ (fun o s => o = .inr "java/lang/IndexOutOfBoundsException" ∧ s = σ) := by
  refine zMet_of (ls := [some (.ref x), some (.int p), some (.int p2), none]) rfl (by decide +kernel) rfl (fun h => by cases h) hX (Nat.le_of_ble_eq_true rfl) rfl ?_
  obtain ⟨K, lf, xo, xA, xK, wK, xS, xH, xJ, xT, xL, lL⟩ := id hC
  obtain ⟨hj, jr, jk, jc, jo⟩ := id xJ
  obtain ⟨hC8, hP8, hW⟩ := id hA
  refine zr_aload_n dX9_letterAt_0 rfl ?_
  refine zr_iload_n dX9_letterAt_1 rfl ?_
  exact zr_callV (rest := []) dX9_letterAt_2 vX9_94 (qX9_requireCaseX hX (p := p) hC hA hno hN) (by decide) (by decide) (by decide) rfl rfl (Nat.le_of_ble_eq_true rfl) xo (by decide) rfl (fun v s h => by cases h.1) (fun E s h => h)

set_option maxHeartbeats 400000 in
set_option maxRecDepth 100000 in
theorem qX9_hasHandle {X : zX} (hX : X.1.stackTraces = false) {σ : zS} {x : Nat} {A S : zDk} {m : Nat} {U : Nat → zDk} {n : Nat} {T : Nat → Int32} {ll : Nat} {ln : Nat → Int32} {hs kf ld dt dc : Int32} {i : Nat} (hC : zKt x A S m U n T ll ln hs kf ld dt dc σ) (hA : zDw A) (hi : i < kC A) : zMet X mX9_hasHandle yX9_hasHandle 7 0 0 [.ref x, .int (nI i)] σ (zI (fun y_ s_ => y_ = (if zfe (kL A i) 0 (kN A i) = -1 then 0 else 1) ∧ s_ = σ)) := by
  refine zMet_of (ls := [some (.ref x), some (.int (nI i))]) rfl (by decide +kernel) rfl (fun h => by cases h) hX (Nat.le_of_ble_eq_true rfl) rfl ?_
  obtain ⟨K, lf, xo, xA, xK, wK, xS, xH, xJ, xT, xL, lL⟩ := id hC
  obtain ⟨hj, jr, jk, jc, jo⟩ := id xJ
  obtain ⟨hC8, hP8, hW⟩ := id hA
  refine zr_aload_n dX9_hasHandle_0 rfl ?_
  refine zr_iload_n dX9_hasHandle_1 rfl ?_
  refine zr_callVv [] dX9_hasHandle_2 vX9_94 (qX9_requireCase hX (i := i) hC hA (by omega)) xo (by decide) (by decide) (by decide) rfl rfl (Nat.le_of_ble_eq_true rfl) (by decide) rfl (fun s_ h_ => ?_)
  rw [h_]; clear h_
  refine zr_aload_n dX9_hasHandle_5 rfl ?_
  refine zr_getfield dX9_hasHandle_6 fX9_20 xo rfl (by decide) ?_
  obtain ⟨wr1, rr1, mr1, tr1, ar1, fr1, ca1, cb1, cc1, cd1, ce1, cf1, cw1⟩ := id xA
  refine zr_getfield dX9_hasHandle_9 fX9_112 ca1 rfl (by decide) ?_
  refine zr_iload_n dX9_hasHandle_12 rfl ?_
  refine zr_aaload6 (b := (x + 2 + 6 + 2 * i)) dX9_hasHandle_13 cb1 (vp_in_nI (n := i) (by omega) (by omega)) (by rw [nI_clamp (by omega)]; exact (cw1 i (by omega)).1) ?_
  refine zr_pVi [] dX9_hasHandle_14 vX9_159 (qW_endOfFirstHandle hX (i := i) xA hA (by omega)) (zDA.wobj xA (by omega)) (by decide) (by decide) (by decide) rfl rfl (Nat.le_of_ble_eq_true rfl) (by decide) rfl ?_
  refine zr_iconst (v := -1) dX9_hasHandle_17 (by decide) ?_
  refine zr_icmp_eq (tgt := 25) dX9_hasHandle_18 (by decide) (fun c_18 => ?_) (fun c_18 => ?_)
  · refine zr_iconst (v := 0) dX9_hasHandle_25 (by decide) ?_
    exact zr_ireturn dX9_hasHandle_26 rfl (rfl) (⟨_, rfl, by rw [if_pos c_18], rfl⟩)
  · refine zr_iconst (v := 1) dX9_hasHandle_21 (by decide) ?_
    refine zr_goto (tgt := 26) dX9_hasHandle_22 (by decide) ?_
    exact zr_ireturn dX9_hasHandle_26 rfl (rfl) (⟨_, rfl, by rw [if_neg c_18], rfl⟩)

set_option maxHeartbeats 400000 in
set_option maxRecDepth 100000 in
theorem qX9_hasHandleX {X : zX} (hX : X.1.stackTraces = false) {σ : zS} {x : Nat} {A S : zDk} {m : Nat} {U : Nat → zDk} {n : Nat} {T : Nat → Int32} {ll : Nat} {ln : Nat → Int32} {hs kf ld dt dc : Int32} {p : Int32} (hC : zKt x A S m U n T ll ln hs kf ld dt dc σ) (hA : zDw A) (hno : ¬ (¬ p < 0 ∧ p < nI (kC A))) (hN : σ.2 = none) : zMet X mX9_hasHandle yX9_hasHandle 7 1 6 [.ref x, .int p] σ (fun o s => o = .inr "java/lang/IndexOutOfBoundsException" ∧ s = σ) := by
  refine zMet_of (ls := [some (.ref x), some (.int p)]) rfl (by decide +kernel) rfl (fun h => by cases h) hX (Nat.le_of_ble_eq_true rfl) rfl ?_
  obtain ⟨K, lf, xo, xA, xK, wK, xS, xH, xJ, xT, xL, lL⟩ := id hC
  obtain ⟨hj, jr, jk, jc, jo⟩ := id xJ
  obtain ⟨hC8, hP8, hW⟩ := id hA
  refine zr_aload_n dX9_hasHandle_0 rfl ?_
  refine zr_iload_n dX9_hasHandle_1 rfl ?_
  exact zr_callV (rest := []) dX9_hasHandle_2 vX9_94 (qX9_requireCaseX hX (p := p) hC hA hno hN) (by decide) (by decide) (by decide) rfl rfl (Nat.le_of_ble_eq_true rfl) xo (by decide) rfl (fun v s h => by cases h.1) (fun E s h => h)

set_option maxHeartbeats 400000 in
set_option maxRecDepth 100000 in
theorem qX9_requireHandleEnd {X : zX} (hX : X.1.stackTraces = false) {σ : zS} {x : Nat} {A S : zDk} {m : Nat} {U : Nat → zDk} {n : Nat} {T : Nat → Int32} {ll : Nat} {ln : Nat → Int32} {hs kf ld dt dc : Int32} {i : Nat} (hC : zKt x A S m U n T ll ln hs kf ld dt dc σ) (hA : zDw A) (hi : i < kC A) (hz : ¬ zfe (kL A i) 0 (kN A i) = -1) : zMet X mX9_requireHandleEnd yX9_requireHandleEnd 7 0 0 [.ref x, .int (nI i)] σ (zI (fun y_ s_ => y_ = zfe (kL A i) 0 (kN A i) ∧ s_ = σ)) := by
  refine zMet_of (ls := [some (.ref x), some (.int (nI i)), none]) rfl (by decide +kernel) rfl (fun h => by cases h) hX (Nat.le_of_ble_eq_true rfl) rfl ?_
  obtain ⟨K, lf, xo, xA, xK, wK, xS, xH, xJ, xT, xL, lL⟩ := id hC
  obtain ⟨hj, jr, jk, jc, jo⟩ := id xJ
  obtain ⟨hC8, hP8, hW⟩ := id hA
  refine zr_aload_n dX9_requireHandleEnd_0 rfl ?_
  refine zr_iload_n dX9_requireHandleEnd_1 rfl ?_
  refine zr_callVv [] dX9_requireHandleEnd_2 vX9_94 (qX9_requireCase hX (i := i) hC hA (by omega)) xo (by decide) (by decide) (by decide) rfl rfl (Nat.le_of_ble_eq_true rfl) (by decide) rfl (fun s_ h_ => ?_)
  rw [h_]; clear h_
  refine zr_aload_n dX9_requireHandleEnd_5 rfl ?_
  refine zr_getfield dX9_requireHandleEnd_6 fX9_20 xo rfl (by decide) ?_
  obtain ⟨wr1, rr1, mr1, tr1, ar1, fr1, ca1, cb1, cc1, cd1, ce1, cf1, cw1⟩ := id xA
  refine zr_getfield dX9_requireHandleEnd_9 fX9_112 ca1 rfl (by decide) ?_
  refine zr_iload_n dX9_requireHandleEnd_12 rfl ?_
  refine zr_aaload6 (b := (x + 2 + 6 + 2 * i)) dX9_requireHandleEnd_13 cb1 (vp_in_nI (n := i) (by omega) (by omega)) (by rw [nI_clamp (by omega)]; exact (cw1 i (by omega)).1) ?_
  refine zr_pVi [] dX9_requireHandleEnd_14 vX9_159 (qW_endOfFirstHandle hX (i := i) xA hA (by omega)) (zDA.wobj xA (by omega)) (by decide) (by decide) (by decide) rfl rfl (Nat.le_of_ble_eq_true rfl) (by decide) rfl ?_
  refine zr_istore_n (ls' := [some (.ref x), some (.int (nI i)), some (.int ((zfe (kL A i) 0 (kN A i))))]) dX9_requireHandleEnd_17 rfl (by decide) rfl ?_
  refine zr_iload_n dX9_requireHandleEnd_18 rfl ?_
  refine zr_iconst (v := -1) dX9_requireHandleEnd_19 (by decide) ?_
  refine zr_icmp_ne (tgt := 34) dX9_requireHandleEnd_20 (by decide) (fun c_20 => ?_) (fun c_20 => absurd c_20 (hz))
  refine zr_iload_n dX9_requireHandleEnd_34 rfl ?_
  exact zr_ireturn dX9_requireHandleEnd_35 rfl (rfl) (⟨_, rfl, rfl, rfl⟩)

set_option maxHeartbeats 400000 in
set_option maxRecDepth 100000 in
theorem qX9_requireHandleEndN {X : zX} (hX : X.1.stackTraces = false) {σ : zS} {x : Nat} {A S : zDk} {m : Nat} {U : Nat → zDk} {n : Nat} {T : Nat → Int32} {ll : Nat} {ln : Nat → Int32} {hs kf ld dt dc : Int32} {i : Nat} (hC : zKt x A S m U n T ll ln hs kf ld dt dc σ) (hA : zDw A) (hi : i < kC A) (hz : zfe (kL A i) 0 (kN A i) = -1) (hN : σ.2 = none) : zMet X mX9_requireHandleEnd yX9_requireHandleEnd 7 1 6 [.ref x, .int (nI i)] σ (fun o s => o = .inr "java/util/NoSuchElementException" ∧ s = σ) := by
  refine zMet_of (ls := [some (.ref x), some (.int (nI i)), none]) rfl (by decide +kernel) rfl (fun h => by cases h) hX (Nat.le_of_ble_eq_true rfl) rfl ?_
  obtain ⟨K, lf, xo, xA, xK, wK, xS, xH, xJ, xT, xL, lL⟩ := id hC
  obtain ⟨hj, jr, jk, jc, jo⟩ := id xJ
  obtain ⟨hC8, hP8, hW⟩ := id hA
  refine zr_aload_n dX9_requireHandleEnd_0 rfl ?_
  refine zr_iload_n dX9_requireHandleEnd_1 rfl ?_
  refine zr_callVv [] dX9_requireHandleEnd_2 vX9_94 (qX9_requireCase hX (i := i) hC hA (by omega)) xo (by decide) (by decide) (by decide) rfl rfl (Nat.le_of_ble_eq_true rfl) (by decide) rfl (fun s_ h_ => ?_)
  rw [h_]; clear h_
  refine zr_aload_n dX9_requireHandleEnd_5 rfl ?_
  refine zr_getfield dX9_requireHandleEnd_6 fX9_20 xo rfl (by decide) ?_
  obtain ⟨wr1, rr1, mr1, tr1, ar1, fr1, ca1, cb1, cc1, cd1, ce1, cf1, cw1⟩ := id xA
  refine zr_getfield dX9_requireHandleEnd_9 fX9_112 ca1 rfl (by decide) ?_
  refine zr_iload_n dX9_requireHandleEnd_12 rfl ?_
  refine zr_aaload6 (b := (x + 2 + 6 + 2 * i)) dX9_requireHandleEnd_13 cb1 (vp_in_nI (n := i) (by omega) (by omega)) (by rw [nI_clamp (by omega)]; exact (cw1 i (by omega)).1) ?_
  refine zr_pVi [] dX9_requireHandleEnd_14 vX9_159 (qW_endOfFirstHandle hX (i := i) xA hA (by omega)) (zDA.wobj xA (by omega)) (by decide) (by decide) (by decide) rfl rfl (Nat.le_of_ble_eq_true rfl) (by decide) rfl ?_
  refine zr_istore_n (ls' := [some (.ref x), some (.int (nI i)), some (.int ((zfe (kL A i) 0 (kN A i))))]) dX9_requireHandleEnd_17 rfl (by decide) rfl ?_
  refine zr_iload_n dX9_requireHandleEnd_18 rfl ?_
  refine zr_iconst (v := -1) dX9_requireHandleEnd_19 (by decide) ?_
  refine zr_icmp_ne (tgt := 34) dX9_requireHandleEnd_20 (by decide) (fun c_20 => absurd (hz) c_20) (fun c_20 => ?_)
  exact zr_thrW dX9_requireHandleEnd_23 dX9_requireHandleEnd_26 dX9_requireHandleEnd_27 dX9_requireHandleEnd_30 dX9_requireHandleEnd_33 thX9_150_383 rfl (by decide) (by decide) (by decide) (by decide) (⟨rfl, zNN hN⟩)

set_option maxHeartbeats 400000 in
set_option maxRecDepth 100000 in
theorem qX9_requireHandleEndX {X : zX} (hX : X.1.stackTraces = false) {σ : zS} {x : Nat} {A S : zDk} {m : Nat} {U : Nat → zDk} {n : Nat} {T : Nat → Int32} {ll : Nat} {ln : Nat → Int32} {hs kf ld dt dc : Int32} {p : Int32} (hC : zKt x A S m U n T ll ln hs kf ld dt dc σ) (hA : zDw A) (hno : ¬ (¬ p < 0 ∧ p < nI (kC A))) (hN : σ.2 = none) : zMet X mX9_requireHandleEnd yX9_requireHandleEnd 7 1 6 [.ref x, .int p] σ (fun o s => o = .inr "java/lang/IndexOutOfBoundsException" ∧ s = σ) := by
  refine zMet_of (ls := [some (.ref x), some (.int p), none]) rfl (by decide +kernel) rfl (fun h => by cases h) hX (Nat.le_of_ble_eq_true rfl) rfl ?_
  obtain ⟨K, lf, xo, xA, xK, wK, xS, xH, xJ, xT, xL, lL⟩ := id hC
  obtain ⟨hj, jr, jk, jc, jo⟩ := id xJ
  obtain ⟨hC8, hP8, hW⟩ := id hA
  refine zr_aload_n dX9_requireHandleEnd_0 rfl ?_
  refine zr_iload_n dX9_requireHandleEnd_1 rfl ?_
  exact zr_callV (rest := []) dX9_requireHandleEnd_2 vX9_94 (qX9_requireCaseX hX (p := p) hC hA hno hN) (by decide) (by decide) (by decide) rfl rfl (Nat.le_of_ble_eq_true rfl) xo (by decide) rfl (fun v s h => by cases h.1) (fun E s h => h)

set_option maxHeartbeats 400000 in
set_option maxRecDepth 100000 in
theorem qX9_handleEnd {X : zX} (hX : X.1.stackTraces = false) {σ : zS} {x : Nat} {A S : zDk} {m : Nat} {U : Nat → zDk} {n : Nat} {T : Nat → Int32} {ll : Nat} {ln : Nat → Int32} {hs kf ld dt dc : Int32} {i : Nat} (hC : zKt x A S m U n T ll ln hs kf ld dt dc σ) (hA : zDw A) (hi : i < kC A) (hz : ¬ zfe (kL A i) 0 (kN A i) = -1) : zMet X mX9_handleEnd yX9_handleEnd 8 0 0 [.ref x, .int (nI i)] σ (zI (fun y_ s_ => y_ = zfe (kL A i) 0 (kN A i) ∧ s_ = σ)) := by
  refine zMet_of (ls := [some (.ref x), some (.int (nI i))]) rfl (by decide +kernel) rfl (fun h => by cases h) hX (Nat.le_of_ble_eq_true rfl) rfl ?_
  obtain ⟨K, lf, xo, xA, xK, wK, xS, xH, xJ, xT, xL, lL⟩ := id hC
  obtain ⟨hj, jr, jk, jc, jo⟩ := id xJ
  obtain ⟨hC8, hP8, hW⟩ := id hA
  refine zr_aload_n dX9_handleEnd_0 rfl ?_
  refine zr_iload_n dX9_handleEnd_1 rfl ?_
  refine zr_pVi [] dX9_handleEnd_2 vX9_162 (qX9_requireHandleEnd hX hC hA hi hz) xo (by decide) (by decide) (by decide) rfl rfl (Nat.le_of_ble_eq_true rfl) (by decide) rfl ?_
  exact zr_ireturn dX9_handleEnd_5 rfl (rfl) (⟨_, rfl, rfl, rfl⟩)

set_option maxHeartbeats 400000 in
set_option maxRecDepth 100000 in
theorem qX9_handleEndN {X : zX} (hX : X.1.stackTraces = false) {σ : zS} {x : Nat} {A S : zDk} {m : Nat} {U : Nat → zDk} {n : Nat} {T : Nat → Int32} {ll : Nat} {ln : Nat → Int32} {hs kf ld dt dc : Int32} {i : Nat} (hC : zKt x A S m U n T ll ln hs kf ld dt dc σ) (hA : zDw A) (hi : i < kC A) (hz : zfe (kL A i) 0 (kN A i) = -1) (hN : σ.2 = none) : zMet X mX9_handleEnd yX9_handleEnd 8 1 6 [.ref x, .int (nI i)] σ (fun o s => o = .inr "java/util/NoSuchElementException" ∧ s = σ) := by
  refine zMet_of (ls := [some (.ref x), some (.int (nI i))]) rfl (by decide +kernel) rfl (fun h => by cases h) hX (Nat.le_of_ble_eq_true rfl) rfl ?_
  obtain ⟨K, lf, xo, xA, xK, wK, xS, xH, xJ, xT, xL, lL⟩ := id hC
  obtain ⟨hj, jr, jk, jc, jo⟩ := id xJ
  obtain ⟨hC8, hP8, hW⟩ := id hA
  refine zr_aload_n dX9_handleEnd_0 rfl ?_
  refine zr_iload_n dX9_handleEnd_1 rfl ?_
  exact zr_callV (rest := []) dX9_handleEnd_2 vX9_162 (qX9_requireHandleEndN hX hC hA hi hz hN) (by decide) (by decide) (by decide) rfl rfl (Nat.le_of_ble_eq_true rfl) xo (by decide) rfl (fun v s h => by cases h.1) (fun E s h => h)

set_option maxHeartbeats 400000 in
set_option maxRecDepth 100000 in
theorem qX9_handleEndX {X : zX} (hX : X.1.stackTraces = false) {σ : zS} {x : Nat} {A S : zDk} {m : Nat} {U : Nat → zDk} {n : Nat} {T : Nat → Int32} {ll : Nat} {ln : Nat → Int32} {hs kf ld dt dc : Int32} {p : Int32} (hC : zKt x A S m U n T ll ln hs kf ld dt dc σ) (hA : zDw A) (hno : ¬ (¬ p < 0 ∧ p < nI (kC A))) (hN : σ.2 = none) : zMet X mX9_handleEnd yX9_handleEnd 8 1 6 [.ref x, .int p] σ (fun o s => o = .inr "java/lang/IndexOutOfBoundsException" ∧ s = σ) := by
  refine zMet_of (ls := [some (.ref x), some (.int p)]) rfl (by decide +kernel) rfl (fun h => by cases h) hX (Nat.le_of_ble_eq_true rfl) rfl ?_
  obtain ⟨K, lf, xo, xA, xK, wK, xS, xH, xJ, xT, xL, lL⟩ := id hC
  obtain ⟨hj, jr, jk, jc, jo⟩ := id xJ
  obtain ⟨hC8, hP8, hW⟩ := id hA
  refine zr_aload_n dX9_handleEnd_0 rfl ?_
  refine zr_iload_n dX9_handleEnd_1 rfl ?_
  exact zr_callV (rest := []) dX9_handleEnd_2 vX9_162 (qX9_requireHandleEndX hX (p := p) hC hA hno hN) (by decide) (by decide) (by decide) rfl rfl (Nat.le_of_ble_eq_true rfl) xo (by decide) rfl (fun v s h => by cases h.1) (fun E s h => h)

theorem zfe_at (f : Nat → Int32) : ∀ k e : Nat, zfe f e k = -1 ∨ ∃ p, e ≤ p ∧ p < e + k ∧ zfe f e k = nI p ∧ ¬ zhb f p = -1
  | 0, e => Or.inl rfl
  | k + 1, e => by
    simp only [zfe]
    by_cases h : zhb f e = -1
    · rw [if_pos h]
      rcases zfe_at f k (e + 1) with h1 | ⟨p, h1, h2, h3, h4⟩
      · exact Or.inl h1
      · exact Or.inr ⟨p, by omega, by omega, h3, h4⟩
    · rw [if_neg h]; exact Or.inr ⟨e, Nat.le_refl _, by omega, rfl, h⟩
set_option maxHeartbeats 400000 in
set_option maxRecDepth 100000 in
theorem qX9_handleBegin {X : zX} (hX : X.1.stackTraces = false) {σ : zS} {x : Nat} {A S : zDk} {m : Nat} {U : Nat → zDk} {n : Nat} {T : Nat → Int32} {ll : Nat} {ln : Nat → Int32} {hs kf ld dt dc : Int32} {i e : Nat} (hC : zKt x A S m U n T ll ln hs kf ld dt dc σ) (hA : zDw A) (hi : i < kC A) (he : zfe (kL A i) 0 (kN A i) = nI e) (hen : e < kN A i) : zMet X mX9_handleBegin yX9_handleBegin 8 0 0 [.ref x, .int (nI i)] σ (zI (fun y_ s_ => y_ = zhb (kL A i) e ∧ s_ = σ)) := by
  refine zMet_of (ls := [some (.ref x), some (.int (nI i)), none]) rfl (by decide +kernel) rfl (fun h => by cases h) hX (Nat.le_of_ble_eq_true rfl) rfl ?_
  obtain ⟨K, lf, xo, xA, xK, wK, xS, xH, xJ, xT, xL, lL⟩ := id hC
  obtain ⟨hj, jr, jk, jc, jo⟩ := id xJ
  obtain ⟨hC8, hP8, hW⟩ := id hA
  have hz : ¬ zfe (kL A i) 0 (kN A i) = -1 := by rw [he]; exact nI_ne e (by have := (hW i (by omega)).1; omega)
  refine zr_aload_n dX9_handleBegin_0 rfl ?_
  refine zr_iload_n dX9_handleBegin_1 rfl ?_
  refine zr_pVi [] dX9_handleBegin_2 vX9_162 (qX9_requireHandleEnd hX hC hA hi hz) xo (by decide) (by decide) (by decide) rfl rfl (Nat.le_of_ble_eq_true rfl) (by decide) rfl ?_
  refine zr_eqi (x' := nI e) (he) ?_
  refine zr_istore_n (ls' := [some (.ref x), some (.int (nI i)), some (.int (nI e))]) dX9_handleBegin_5 rfl (by decide) rfl ?_
  have h16 := (hW i (by omega)).1
  refine zr_aload_n dX9_handleBegin_6 rfl ?_
  refine zr_getfield dX9_handleBegin_7 fX9_20 xo rfl (by decide) ?_
  obtain ⟨wr1, rr1, mr1, tr1, ar1, fr1, ca1, cb1, cc1, cd1, ce1, cf1, cw1⟩ := id xA
  refine zr_getfield dX9_handleBegin_10 fX9_112 ca1 rfl (by decide) ?_
  refine zr_iload_n dX9_handleBegin_13 rfl ?_
  refine zr_aaload6 (b := (x + 2 + 6 + 2 * i)) dX9_handleBegin_14 cb1 (vp_in_nI (n := i) (by omega) (by omega)) (by rw [nI_clamp (by omega)]; exact (cw1 i (by omega)).1) ?_
  obtain ⟨we2, wg2, wc2, wl2, wm2⟩ := cw1 i (by omega)
  refine zr_getfield dX9_handleBegin_15 fX9_155 wc2 rfl (by decide) ?_
  refine zr_iload_n dX9_handleBegin_18 rfl ?_
  refine zr_pSi [] dX9_handleBegin_19 vX9_165 (qX9_beginOfHandle hX (e := e) wl2 (by decide) (by omega)) (by decide) (by decide) (by decide) rfl rfl (Nat.le_of_ble_eq_true rfl) rfl ?_
  exact zr_ireturn dX9_handleBegin_22 rfl (rfl) (⟨_, rfl, zhb_congr (fun j hj => wm2 j (by omega)), rfl⟩)

set_option maxHeartbeats 400000 in
set_option maxRecDepth 100000 in
theorem qX9_handleBeginN {X : zX} (hX : X.1.stackTraces = false) {σ : zS} {x : Nat} {A S : zDk} {m : Nat} {U : Nat → zDk} {n : Nat} {T : Nat → Int32} {ll : Nat} {ln : Nat → Int32} {hs kf ld dt dc : Int32} {i : Nat} (hC : zKt x A S m U n T ll ln hs kf ld dt dc σ) (hA : zDw A) (hi : i < kC A) (hz : zfe (kL A i) 0 (kN A i) = -1) (hN : σ.2 = none) : zMet X mX9_handleBegin yX9_handleBegin 8 1 6 [.ref x, .int (nI i)] σ (fun o s => o = .inr "java/util/NoSuchElementException" ∧ s = σ) := by
  refine zMet_of (ls := [some (.ref x), some (.int (nI i)), none]) rfl (by decide +kernel) rfl (fun h => by cases h) hX (Nat.le_of_ble_eq_true rfl) rfl ?_
  obtain ⟨K, lf, xo, xA, xK, wK, xS, xH, xJ, xT, xL, lL⟩ := id hC
  obtain ⟨hj, jr, jk, jc, jo⟩ := id xJ
  obtain ⟨hC8, hP8, hW⟩ := id hA
  refine zr_aload_n dX9_handleBegin_0 rfl ?_
  refine zr_iload_n dX9_handleBegin_1 rfl ?_
  exact zr_callV (rest := []) dX9_handleBegin_2 vX9_162 (qX9_requireHandleEndN hX hC hA hi hz hN) (by decide) (by decide) (by decide) rfl rfl (Nat.le_of_ble_eq_true rfl) xo (by decide) rfl (fun v s h => by cases h.1) (fun E s h => h)

set_option maxHeartbeats 400000 in
set_option maxRecDepth 100000 in
theorem qX9_handleBeginX {X : zX} (hX : X.1.stackTraces = false) {σ : zS} {x : Nat} {A S : zDk} {m : Nat} {U : Nat → zDk} {n : Nat} {T : Nat → Int32} {ll : Nat} {ln : Nat → Int32} {hs kf ld dt dc : Int32} {p : Int32} (hC : zKt x A S m U n T ll ln hs kf ld dt dc σ) (hA : zDw A) (hno : ¬ (¬ p < 0 ∧ p < nI (kC A))) (hN : σ.2 = none) : zMet X mX9_handleBegin yX9_handleBegin 8 1 6 [.ref x, .int p] σ (fun o s => o = .inr "java/lang/IndexOutOfBoundsException" ∧ s = σ) := by
  refine zMet_of (ls := [some (.ref x), some (.int p), none]) rfl (by decide +kernel) rfl (fun h => by cases h) hX (Nat.le_of_ble_eq_true rfl) rfl ?_
  obtain ⟨K, lf, xo, xA, xK, wK, xS, xH, xJ, xT, xL, lL⟩ := id hC
  obtain ⟨hj, jr, jk, jc, jo⟩ := id xJ
  obtain ⟨hC8, hP8, hW⟩ := id hA
  refine zr_aload_n dX9_handleBegin_0 rfl ?_
  refine zr_iload_n dX9_handleBegin_1 rfl ?_
  exact zr_callV (rest := []) dX9_handleBegin_2 vX9_162 (qX9_requireHandleEndX hX (p := p) hC hA hno hN) (by decide) (by decide) (by decide) rfl rfl (Nat.le_of_ble_eq_true rfl) xo (by decide) rfl (fun v s h => by cases h.1) (fun E s h => h)

set_option maxHeartbeats 400000 in
set_option maxRecDepth 100000 in
theorem qX9_writhe {X : zX} (hX : X.1.stackTraces = false) {σ : zS} {x : Nat} {A S : zDk} {m : Nat} {U : Nat → zDk} {n : Nat} {T : Nat → Int32} {ll : Nat} {ln : Nat → Int32} {hs kf ld dt dc : Int32} {i : Nat} (hC : zKt x A S m U n T ll ln hs kf ld dt dc σ) (hA : zDw A) (hi : i < kC A) : zMet X mX9_writhe yX9_writhe 7 0 0 [.ref x, .int (nI i)] σ (zI (fun y_ s_ => y_ = zSum (kL A i) (kN A i) ∧ s_ = σ)) := by
  refine zMet_of (ls := [some (.ref x), some (.int (nI i))]) rfl (by decide +kernel) rfl (fun h => by cases h) hX (Nat.le_of_ble_eq_true rfl) rfl ?_
  obtain ⟨K, lf, xo, xA, xK, wK, xS, xH, xJ, xT, xL, lL⟩ := id hC
  obtain ⟨hj, jr, jk, jc, jo⟩ := id xJ
  obtain ⟨hC8, hP8, hW⟩ := id hA
  refine zr_aload_n dX9_writhe_0 rfl ?_
  refine zr_iload_n dX9_writhe_1 rfl ?_
  refine zr_callVv [] dX9_writhe_2 vX9_94 (qX9_requireCase hX (i := i) hC hA (by omega)) xo (by decide) (by decide) (by decide) rfl rfl (Nat.le_of_ble_eq_true rfl) (by decide) rfl (fun s_ h_ => ?_)
  rw [h_]; clear h_
  refine zr_aload_n dX9_writhe_5 rfl ?_
  refine zr_getfield dX9_writhe_6 fX9_20 xo rfl (by decide) ?_
  obtain ⟨wr1, rr1, mr1, tr1, ar1, fr1, ca1, cb1, cc1, cd1, ce1, cf1, cw1⟩ := id xA
  refine zr_getfield dX9_writhe_9 fX9_112 ca1 rfl (by decide) ?_
  refine zr_iload_n dX9_writhe_12 rfl ?_
  refine zr_aaload6 (b := (x + 2 + 6 + 2 * i)) dX9_writhe_13 cb1 (vp_in_nI (n := i) (by omega) (by omega)) (by rw [nI_clamp (by omega)]; exact (cw1 i (by omega)).1) ?_
  refine zr_pVi [] dX9_writhe_14 vX9_177 (qW_sumOfSigns hX (i := i) xA hA (by omega)) (zDA.wobj xA (by omega)) (by decide) (by decide) (by decide) rfl rfl (Nat.le_of_ble_eq_true rfl) (by decide) rfl ?_
  exact zr_ireturn dX9_writhe_17 rfl (rfl) (⟨_, rfl, rfl, rfl⟩)

set_option maxHeartbeats 400000 in
set_option maxRecDepth 100000 in
theorem qX9_writheX {X : zX} (hX : X.1.stackTraces = false) {σ : zS} {x : Nat} {A S : zDk} {m : Nat} {U : Nat → zDk} {n : Nat} {T : Nat → Int32} {ll : Nat} {ln : Nat → Int32} {hs kf ld dt dc : Int32} {p : Int32} (hC : zKt x A S m U n T ll ln hs kf ld dt dc σ) (hA : zDw A) (hno : ¬ (¬ p < 0 ∧ p < nI (kC A))) (hN : σ.2 = none) : zMet X mX9_writhe yX9_writhe 7 1 6 [.ref x, .int p] σ (fun o s => o = .inr "java/lang/IndexOutOfBoundsException" ∧ s = σ) := by
  refine zMet_of (ls := [some (.ref x), some (.int p)]) rfl (by decide +kernel) rfl (fun h => by cases h) hX (Nat.le_of_ble_eq_true rfl) rfl ?_
  obtain ⟨K, lf, xo, xA, xK, wK, xS, xH, xJ, xT, xL, lL⟩ := id hC
  obtain ⟨hj, jr, jk, jc, jo⟩ := id xJ
  obtain ⟨hC8, hP8, hW⟩ := id hA
  refine zr_aload_n dX9_writhe_0 rfl ?_
  refine zr_iload_n dX9_writhe_1 rfl ?_
  exact zr_callV (rest := []) dX9_writhe_2 vX9_94 (qX9_requireCaseX hX (p := p) hC hA hno hN) (by decide) (by decide) (by decide) rfl rfl (Nat.le_of_ble_eq_true rfl) xo (by decide) rfl (fun v s h => by cases h.1) (fun E s h => h)

set_option maxHeartbeats 400000 in
set_option maxRecDepth 100000 in
theorem qX9_strandEnd {X : zX} (hX : X.1.stackTraces = false) {σ : zS} {x : Nat} {A S : zDk} {m : Nat} {U : Nat → zDk} {n : Nat} {T : Nat → Int32} {ll : Nat} {ln : Nat → Int32} {hs kf ld dt dc : Int32} {i : Nat} {p : Int32} (hC : zKt x A S m U n T ll ln hs kf ld dt dc σ) (hA : zDw A) (hi : i < kC A) (hp : 1 ≤ p ∧ p ≤ 5) : zMet X mX9_strandEnd yX9_strandEnd 7 0 0 [.ref x, .int (nI i), .int p] σ (zI (fun y_ s_ => y_ = zEnd (kL A i) p (kN A i) ∧ s_ = σ)) := by
  refine zMet_of (ls := [some (.ref x), some (.int (nI i)), some (.int p)]) rfl (by decide +kernel) rfl (fun h => by cases h) hX (Nat.le_of_ble_eq_true rfl) rfl ?_
  obtain ⟨K, lf, xo, xA, xK, wK, xS, xH, xJ, xT, xL, lL⟩ := id hC
  obtain ⟨hj, jr, jk, jc, jo⟩ := id xJ
  obtain ⟨hC8, hP8, hW⟩ := id hA
  refine zr_aload_n dX9_strandEnd_0 rfl ?_
  refine zr_iload_n dX9_strandEnd_1 rfl ?_
  refine zr_callVv [] dX9_strandEnd_2 vX9_94 (qX9_requireCase hX (i := i) hC hA (by omega)) xo (by decide) (by decide) (by decide) rfl rfl (Nat.le_of_ble_eq_true rfl) (by decide) rfl (fun s_ h_ => ?_)
  rw [h_]; clear h_
  refine zr_iload_n dX9_strandEnd_5 rfl ?_
  refine zr_callSv [] dX9_strandEnd_6 vX9_180 (qX9_requirePosition hX (σ := σ) (p := p) hp) (by decide) (by decide) (by decide) rfl rfl (Nat.le_of_ble_eq_true rfl) rfl (fun s_ h_ => ?_)
  rw [h_]; clear h_
  refine zr_aload_n dX9_strandEnd_9 rfl ?_
  refine zr_getfield dX9_strandEnd_10 fX9_20 xo rfl (by decide) ?_
  obtain ⟨wr1, rr1, mr1, tr1, ar1, fr1, ca1, cb1, cc1, cd1, ce1, cf1, cw1⟩ := id xA
  refine zr_getfield dX9_strandEnd_13 fX9_112 ca1 rfl (by decide) ?_
  refine zr_iload_n dX9_strandEnd_16 rfl ?_
  refine zr_aaload6 (b := (x + 2 + 6 + 2 * i)) dX9_strandEnd_17 cb1 (vp_in_nI (n := i) (by omega) (by omega)) (by rw [nI_clamp (by omega)]; exact (cw1 i (by omega)).1) ?_
  refine zr_iload_n dX9_strandEnd_18 rfl ?_
  refine zr_pVi [] dX9_strandEnd_19 vX9_183 (qW_endOf hX (i := i) xA hA (by omega) (p)) (zDA.wobj xA (by omega)) (by decide) (by decide) (by decide) rfl rfl (Nat.le_of_ble_eq_true rfl) (by decide) rfl ?_
  exact zr_ireturn dX9_strandEnd_22 rfl (rfl) (⟨_, rfl, rfl, rfl⟩)

set_option maxHeartbeats 400000 in
set_option maxRecDepth 100000 in
theorem qX9_strandEndX {X : zX} (hX : X.1.stackTraces = false) {σ : zS} {x : Nat} {A S : zDk} {m : Nat} {U : Nat → zDk} {n : Nat} {T : Nat → Int32} {ll : Nat} {ln : Nat → Int32} {hs kf ld dt dc : Int32} {p : Int32} {p2 : Int32} (hC : zKt x A S m U n T ll ln hs kf ld dt dc σ) (hA : zDw A) (hno : ¬ (¬ p < 0 ∧ p < nI (kC A))) (hN : σ.2 = none) : zMet X mX9_strandEnd yX9_strandEnd 7 1 6 [.ref x, .int p, .int p2] σ (fun o s => o = .inr "java/lang/IndexOutOfBoundsException" ∧ s = σ) := by
  refine zMet_of (ls := [some (.ref x), some (.int p), some (.int p2)]) rfl (by decide +kernel) rfl (fun h => by cases h) hX (Nat.le_of_ble_eq_true rfl) rfl ?_
  obtain ⟨K, lf, xo, xA, xK, wK, xS, xH, xJ, xT, xL, lL⟩ := id hC
  obtain ⟨hj, jr, jk, jc, jo⟩ := id xJ
  obtain ⟨hC8, hP8, hW⟩ := id hA
  refine zr_aload_n dX9_strandEnd_0 rfl ?_
  refine zr_iload_n dX9_strandEnd_1 rfl ?_
  exact zr_callV (rest := []) dX9_strandEnd_2 vX9_94 (qX9_requireCaseX hX (p := p) hC hA hno hN) (by decide) (by decide) (by decide) rfl rfl (Nat.le_of_ble_eq_true rfl) xo (by decide) rfl (fun v s h => by cases h.1) (fun E s h => h)

set_option maxHeartbeats 400000 in
set_option maxRecDepth 100000 in
theorem qX9_strandEndN {X : zX} (hX : X.1.stackTraces = false) {σ : zS} {x : Nat} {A S : zDk} {m : Nat} {U : Nat → zDk} {n : Nat} {T : Nat → Int32} {ll : Nat} {ln : Nat → Int32} {hs kf ld dt dc : Int32} {i : Nat} {p : Int32} (hC : zKt x A S m U n T ll ln hs kf ld dt dc σ) (hA : zDw A) (hi : i < kC A) (hp : ¬ (1 ≤ p ∧ p ≤ 5)) (hN : σ.2 = none) : zMet X mX9_strandEnd yX9_strandEnd 7 1 6 [.ref x, .int (nI i), .int p] σ (fun o s => o = .inr "java/lang/IllegalArgumentException" ∧ s = σ) := by
  refine zMet_of (ls := [some (.ref x), some (.int (nI i)), some (.int p)]) rfl (by decide +kernel) rfl (fun h => by cases h) hX (Nat.le_of_ble_eq_true rfl) rfl ?_
  obtain ⟨K, lf, xo, xA, xK, wK, xS, xH, xJ, xT, xL, lL⟩ := id hC
  obtain ⟨hj, jr, jk, jc, jo⟩ := id xJ
  obtain ⟨hC8, hP8, hW⟩ := id hA
  refine zr_aload_n dX9_strandEnd_0 rfl ?_
  refine zr_iload_n dX9_strandEnd_1 rfl ?_
  refine zr_callVv [] dX9_strandEnd_2 vX9_94 (qX9_requireCase hX (i := i) hC hA (by omega)) xo (by decide) (by decide) (by decide) rfl rfl (Nat.le_of_ble_eq_true rfl) (by decide) rfl (fun s_ h_ => ?_)
  rw [h_]; clear h_
  refine zr_iload_n dX9_strandEnd_5 rfl ?_
  exact zr_callS (rest := []) dX9_strandEnd_6 vX9_180 (qX9_requirePositionX hX hp hN) (by decide) (by decide) (by decide) rfl rfl (Nat.le_of_ble_eq_true rfl) rfl (fun v s h => by cases h.1) (fun E s h => h)

set_option maxHeartbeats 400000 in
set_option maxRecDepth 100000 in
theorem qX9_closedThreads {X : zX} (hX : X.1.stackTraces = false) {σ : zS} {x : Nat} {A S : zDk} {m : Nat} {U : Nat → zDk} {n : Nat} {T : Nat → Int32} {ll : Nat} {ln : Nat → Int32} {hs kf ld dt dc : Int32} {i : Nat} (hC : zKt x A S m U n T ll ln hs kf ld dt dc σ) (hA : zDw A) (hi : i < kC A) : zMet X mX9_closedThreads yX9_closedThreads 7 0 0 [.ref x, .int (nI i)] σ (zI (fun y_ s_ => y_ = zCyc (kL A i) (kN A i) 5 ∧ s_ = σ)) := by
  refine zMet_of (ls := [some (.ref x), some (.int (nI i))]) rfl (by decide +kernel) rfl (fun h => by cases h) hX (Nat.le_of_ble_eq_true rfl) rfl ?_
  obtain ⟨K, lf, xo, xA, xK, wK, xS, xH, xJ, xT, xL, lL⟩ := id hC
  obtain ⟨hj, jr, jk, jc, jo⟩ := id xJ
  obtain ⟨hC8, hP8, hW⟩ := id hA
  refine zr_aload_n dX9_closedThreads_0 rfl ?_
  refine zr_iload_n dX9_closedThreads_1 rfl ?_
  refine zr_callVv [] dX9_closedThreads_2 vX9_94 (qX9_requireCase hX (i := i) hC hA (by omega)) xo (by decide) (by decide) (by decide) rfl rfl (Nat.le_of_ble_eq_true rfl) (by decide) rfl (fun s_ h_ => ?_)
  rw [h_]; clear h_
  refine zr_aload_n dX9_closedThreads_5 rfl ?_
  refine zr_getfield dX9_closedThreads_6 fX9_20 xo rfl (by decide) ?_
  obtain ⟨wr1, rr1, mr1, tr1, ar1, fr1, ca1, cb1, cc1, cd1, ce1, cf1, cw1⟩ := id xA
  refine zr_getfield dX9_closedThreads_9 fX9_112 ca1 rfl (by decide) ?_
  refine zr_iload_n dX9_closedThreads_12 rfl ?_
  refine zr_aaload6 (b := (x + 2 + 6 + 2 * i)) dX9_closedThreads_13 cb1 (vp_in_nI (n := i) (by omega) (by omega)) (by rw [nI_clamp (by omega)]; exact (cw1 i (by omega)).1) ?_
  refine zr_pVi [] dX9_closedThreads_14 vX9_186 (qW_countCycles hX (i := i) xA hA (by omega)) (zDA.wobj xA (by omega)) (by decide) (by decide) (by decide) rfl rfl (Nat.le_of_ble_eq_true rfl) (by decide) rfl ?_
  exact zr_ireturn dX9_closedThreads_17 rfl (rfl) (⟨_, rfl, rfl, rfl⟩)

set_option maxHeartbeats 400000 in
set_option maxRecDepth 100000 in
theorem qX9_closedThreadsX {X : zX} (hX : X.1.stackTraces = false) {σ : zS} {x : Nat} {A S : zDk} {m : Nat} {U : Nat → zDk} {n : Nat} {T : Nat → Int32} {ll : Nat} {ln : Nat → Int32} {hs kf ld dt dc : Int32} {p : Int32} (hC : zKt x A S m U n T ll ln hs kf ld dt dc σ) (hA : zDw A) (hno : ¬ (¬ p < 0 ∧ p < nI (kC A))) (hN : σ.2 = none) : zMet X mX9_closedThreads yX9_closedThreads 7 1 6 [.ref x, .int p] σ (fun o s => o = .inr "java/lang/IndexOutOfBoundsException" ∧ s = σ) := by
  refine zMet_of (ls := [some (.ref x), some (.int p)]) rfl (by decide +kernel) rfl (fun h => by cases h) hX (Nat.le_of_ble_eq_true rfl) rfl ?_
  obtain ⟨K, lf, xo, xA, xK, wK, xS, xH, xJ, xT, xL, lL⟩ := id hC
  obtain ⟨hj, jr, jk, jc, jo⟩ := id xJ
  obtain ⟨hC8, hP8, hW⟩ := id hA
  refine zr_aload_n dX9_closedThreads_0 rfl ?_
  refine zr_iload_n dX9_closedThreads_1 rfl ?_
  exact zr_callV (rest := []) dX9_closedThreads_2 vX9_94 (qX9_requireCaseX hX (p := p) hC hA hno hN) (by decide) (by decide) (by decide) rfl rfl (Nat.le_of_ble_eq_true rfl) xo (by decide) rfl (fun v s h => by cases h.1) (fun E s h => h)

set_option maxHeartbeats 400000 in
set_option maxRecDepth 100000 in
theorem qX9_crossings {X : zX} (hX : X.1.stackTraces = false) {σ : zS} {x : Nat} {A S : zDk} {m : Nat} {U : Nat → zDk} {n : Nat} {T : Nat → Int32} {ll : Nat} {ln : Nat → Int32} {hs kf ld dt dc : Int32} {i : Nat} {p p2 : Int32} (hC : zKt x A S m U n T ll ln hs kf ld dt dc σ) (hA : zDw A) (hi : i < kC A) (hp : 1 ≤ p ∧ p ≤ 5) (hp2 : 1 ≤ p2 ∧ p2 ≤ 5) : zMet X mX9_crossings yX9_crossings 7 0 0 [.ref x, .int (nI i), .int p, .int p2] σ (zI (fun y_ s_ => y_ = (zCr (kL A i) p p2 (kN A i)).2.2 ∧ s_ = σ)) := by
  refine zMet_of (ls := [some (.ref x), some (.int (nI i)), some (.int p), some (.int p2)]) rfl (by decide +kernel) rfl (fun h => by cases h) hX (Nat.le_of_ble_eq_true rfl) rfl ?_
  obtain ⟨K, lf, xo, xA, xK, wK, xS, xH, xJ, xT, xL, lL⟩ := id hC
  obtain ⟨hj, jr, jk, jc, jo⟩ := id xJ
  obtain ⟨hC8, hP8, hW⟩ := id hA
  refine zr_aload_n dX9_crossings_0 rfl ?_
  refine zr_iload_n dX9_crossings_1 rfl ?_
  refine zr_callVv [] dX9_crossings_2 vX9_94 (qX9_requireCase hX (i := i) hC hA (by omega)) xo (by decide) (by decide) (by decide) rfl rfl (Nat.le_of_ble_eq_true rfl) (by decide) rfl (fun s_ h_ => ?_)
  rw [h_]; clear h_
  refine zr_iload_n dX9_crossings_5 rfl ?_
  refine zr_callSv [] dX9_crossings_6 vX9_180 (qX9_requirePosition hX (σ := σ) (p := p) hp) (by decide) (by decide) (by decide) rfl rfl (Nat.le_of_ble_eq_true rfl) rfl (fun s_ h_ => ?_)
  rw [h_]; clear h_
  refine zr_iload_n dX9_crossings_9 rfl ?_
  refine zr_callSv [] dX9_crossings_10 vX9_180 (qX9_requirePosition hX (σ := σ) (p := p2) hp2) (by decide) (by decide) (by decide) rfl rfl (Nat.le_of_ble_eq_true rfl) rfl (fun s_ h_ => ?_)
  rw [h_]; clear h_
  refine zr_aload_n dX9_crossings_13 rfl ?_
  refine zr_getfield dX9_crossings_14 fX9_20 xo rfl (by decide) ?_
  obtain ⟨wr1, rr1, mr1, tr1, ar1, fr1, ca1, cb1, cc1, cd1, ce1, cf1, cw1⟩ := id xA
  refine zr_getfield dX9_crossings_17 fX9_112 ca1 rfl (by decide) ?_
  refine zr_iload_n dX9_crossings_20 rfl ?_
  refine zr_aaload6 (b := (x + 2 + 6 + 2 * i)) dX9_crossings_21 cb1 (vp_in_nI (n := i) (by omega) (by omega)) (by rw [nI_clamp (by omega)]; exact (cw1 i (by omega)).1) ?_
  refine zr_iload_n dX9_crossings_22 rfl ?_
  refine zr_iload_n dX9_crossings_23 rfl ?_
  refine zr_pVi [] dX9_crossings_24 vX9_189 (qW_sumOfCrossings hX (i := i) xA hA (by omega) (p) (p2)) (zDA.wobj xA (by omega)) (by decide) (by decide) (by decide) rfl rfl (Nat.le_of_ble_eq_true rfl) (by decide) rfl ?_
  exact zr_ireturn dX9_crossings_27 rfl (rfl) (⟨_, rfl, rfl, rfl⟩)

set_option maxHeartbeats 400000 in
set_option maxRecDepth 100000 in
theorem qX9_crossingsX {X : zX} (hX : X.1.stackTraces = false) {σ : zS} {x : Nat} {A S : zDk} {m : Nat} {U : Nat → zDk} {n : Nat} {T : Nat → Int32} {ll : Nat} {ln : Nat → Int32} {hs kf ld dt dc : Int32} {p : Int32} {p2 p3 : Int32} (hC : zKt x A S m U n T ll ln hs kf ld dt dc σ) (hA : zDw A) (hno : ¬ (¬ p < 0 ∧ p < nI (kC A))) (hN : σ.2 = none) : zMet X mX9_crossings yX9_crossings 7 1 6 [.ref x, .int p, .int p2, .int p3] σ (fun o s => o = .inr "java/lang/IndexOutOfBoundsException" ∧ s = σ) := by
  refine zMet_of (ls := [some (.ref x), some (.int p), some (.int p2), some (.int p3)]) rfl (by decide +kernel) rfl (fun h => by cases h) hX (Nat.le_of_ble_eq_true rfl) rfl ?_
  obtain ⟨K, lf, xo, xA, xK, wK, xS, xH, xJ, xT, xL, lL⟩ := id hC
  obtain ⟨hj, jr, jk, jc, jo⟩ := id xJ
  obtain ⟨hC8, hP8, hW⟩ := id hA
  refine zr_aload_n dX9_crossings_0 rfl ?_
  refine zr_iload_n dX9_crossings_1 rfl ?_
  exact zr_callV (rest := []) dX9_crossings_2 vX9_94 (qX9_requireCaseX hX (p := p) hC hA hno hN) (by decide) (by decide) (by decide) rfl rfl (Nat.le_of_ble_eq_true rfl) xo (by decide) rfl (fun v s h => by cases h.1) (fun E s h => h)

set_option maxHeartbeats 400000 in
set_option maxRecDepth 100000 in
theorem qX9_crossingsN {X : zX} (hX : X.1.stackTraces = false) {σ : zS} {x : Nat} {A S : zDk} {m : Nat} {U : Nat → zDk} {n : Nat} {T : Nat → Int32} {ll : Nat} {ln : Nat → Int32} {hs kf ld dt dc : Int32} {i : Nat} {p p2 : Int32} (hC : zKt x A S m U n T ll ln hs kf ld dt dc σ) (hA : zDw A) (hi : i < kC A) (hp : ¬ (1 ≤ p ∧ p ≤ 5)) (hN : σ.2 = none) : zMet X mX9_crossings yX9_crossings 7 1 6 [.ref x, .int (nI i), .int p, .int p2] σ (fun o s => o = .inr "java/lang/IllegalArgumentException" ∧ s = σ) := by
  refine zMet_of (ls := [some (.ref x), some (.int (nI i)), some (.int p), some (.int p2)]) rfl (by decide +kernel) rfl (fun h => by cases h) hX (Nat.le_of_ble_eq_true rfl) rfl ?_
  obtain ⟨K, lf, xo, xA, xK, wK, xS, xH, xJ, xT, xL, lL⟩ := id hC
  obtain ⟨hj, jr, jk, jc, jo⟩ := id xJ
  obtain ⟨hC8, hP8, hW⟩ := id hA
  refine zr_aload_n dX9_crossings_0 rfl ?_
  refine zr_iload_n dX9_crossings_1 rfl ?_
  refine zr_callVv [] dX9_crossings_2 vX9_94 (qX9_requireCase hX (i := i) hC hA (by omega)) xo (by decide) (by decide) (by decide) rfl rfl (Nat.le_of_ble_eq_true rfl) (by decide) rfl (fun s_ h_ => ?_)
  rw [h_]; clear h_
  refine zr_iload_n dX9_crossings_5 rfl ?_
  exact zr_callS (rest := []) dX9_crossings_6 vX9_180 (qX9_requirePositionX hX hp hN) (by decide) (by decide) (by decide) rfl rfl (Nat.le_of_ble_eq_true rfl) rfl (fun v s h => by cases h.1) (fun E s h => h)

set_option maxHeartbeats 400000 in
set_option maxRecDepth 100000 in
theorem qX9_crossingsN2 {X : zX} (hX : X.1.stackTraces = false) {σ : zS} {x : Nat} {A S : zDk} {m : Nat} {U : Nat → zDk} {n : Nat} {T : Nat → Int32} {ll : Nat} {ln : Nat → Int32} {hs kf ld dt dc : Int32} {i : Nat} {p p2 : Int32} (hC : zKt x A S m U n T ll ln hs kf ld dt dc σ) (hA : zDw A) (hi : i < kC A) (hp : 1 ≤ p ∧ p ≤ 5) (hp2 : ¬ (1 ≤ p2 ∧ p2 ≤ 5)) (hN : σ.2 = none) : zMet X mX9_crossings yX9_crossings 7 1 6 [.ref x, .int (nI i), .int p, .int p2] σ (fun o s => o = .inr "java/lang/IllegalArgumentException" ∧ s = σ) := by
  refine zMet_of (ls := [some (.ref x), some (.int (nI i)), some (.int p), some (.int p2)]) rfl (by decide +kernel) rfl (fun h => by cases h) hX (Nat.le_of_ble_eq_true rfl) rfl ?_
  obtain ⟨K, lf, xo, xA, xK, wK, xS, xH, xJ, xT, xL, lL⟩ := id hC
  obtain ⟨hj, jr, jk, jc, jo⟩ := id xJ
  obtain ⟨hC8, hP8, hW⟩ := id hA
  refine zr_aload_n dX9_crossings_0 rfl ?_
  refine zr_iload_n dX9_crossings_1 rfl ?_
  refine zr_callVv [] dX9_crossings_2 vX9_94 (qX9_requireCase hX (i := i) hC hA (by omega)) xo (by decide) (by decide) (by decide) rfl rfl (Nat.le_of_ble_eq_true rfl) (by decide) rfl (fun s_ h_ => ?_)
  rw [h_]; clear h_
  refine zr_iload_n dX9_crossings_5 rfl ?_
  refine zr_callSv [] dX9_crossings_6 vX9_180 (qX9_requirePosition hX (σ := σ) (p := p) hp) (by decide) (by decide) (by decide) rfl rfl (Nat.le_of_ble_eq_true rfl) rfl (fun s_ h_ => ?_)
  rw [h_]; clear h_
  refine zr_iload_n dX9_crossings_9 rfl ?_
  exact zr_callS (rest := []) dX9_crossings_10 vX9_180 (qX9_requirePositionX hX hp2 hN) (by decide) (by decide) (by decide) rfl rfl (Nat.le_of_ble_eq_true rfl) rfl (fun v s h => by cases h.1) (fun E s h => h)

set_option maxHeartbeats 400000 in
set_option maxRecDepth 100000 in
theorem qX9_isDecided {X : zX} (hX : X.1.stackTraces = false) {σ : zS} {x : Nat} {A S : zDk} {m : Nat} {U : Nat → zDk} {n : Nat} {T : Nat → Int32} {ll : Nat} {ln : Nat → Int32} {hs kf ld dt dc : Int32} {i : Nat} (hC : zKt x A S m U n T ll ln hs kf ld dt dc σ) (hA : zDw A) (hi : i < kC A) : zMet X mX9_isDecided yX9_isDecided 7 0 0 [.ref x, .int (nI i)] σ (zI (fun y_ s_ => y_ = (if kR A i = -1 then 0 else 1) ∧ s_ = σ)) := by
  refine zMet_of (ls := [some (.ref x), some (.int (nI i))]) rfl (by decide +kernel) rfl (fun h => by cases h) hX (Nat.le_of_ble_eq_true rfl) rfl ?_
  obtain ⟨K, lf, xo, xA, xK, wK, xS, xH, xJ, xT, xL, lL⟩ := id hC
  obtain ⟨hj, jr, jk, jc, jo⟩ := id xJ
  obtain ⟨hC8, hP8, hW⟩ := id hA
  refine zr_aload_n dX9_isDecided_0 rfl ?_
  refine zr_iload_n dX9_isDecided_1 rfl ?_
  refine zr_callVv [] dX9_isDecided_2 vX9_94 (qX9_requireCase hX (i := i) hC hA (by omega)) xo (by decide) (by decide) (by decide) rfl rfl (Nat.le_of_ble_eq_true rfl) (by decide) rfl (fun s_ h_ => ?_)
  rw [h_]; clear h_
  refine zr_aload_n dX9_isDecided_5 rfl ?_
  refine zr_getfield dX9_isDecided_6 fX9_20 xo rfl (by decide) ?_
  refine zr_iload_n dX9_isDecided_9 rfl ?_
  refine zr_pVi [] dX9_isDecided_10 vX9_241 (qX3_hasVerdict hX (i := i) xA hA (by omega)) (zDA.obj xA) (by decide) (by decide) (by decide) rfl rfl (Nat.le_of_ble_eq_true rfl) (by decide) rfl ?_
  exact zr_ireturn dX9_isDecided_13 rfl (nar_ite2) (⟨_, rfl, rfl, rfl⟩)

set_option maxHeartbeats 400000 in
set_option maxRecDepth 100000 in
theorem qX9_isDecidedX {X : zX} (hX : X.1.stackTraces = false) {σ : zS} {x : Nat} {A S : zDk} {m : Nat} {U : Nat → zDk} {n : Nat} {T : Nat → Int32} {ll : Nat} {ln : Nat → Int32} {hs kf ld dt dc : Int32} {p : Int32} (hC : zKt x A S m U n T ll ln hs kf ld dt dc σ) (hA : zDw A) (hno : ¬ (¬ p < 0 ∧ p < nI (kC A))) (hN : σ.2 = none) : zMet X mX9_isDecided yX9_isDecided 7 1 6 [.ref x, .int p] σ (fun o s => o = .inr "java/lang/IndexOutOfBoundsException" ∧ s = σ) := by
  refine zMet_of (ls := [some (.ref x), some (.int p)]) rfl (by decide +kernel) rfl (fun h => by cases h) hX (Nat.le_of_ble_eq_true rfl) rfl ?_
  obtain ⟨K, lf, xo, xA, xK, wK, xS, xH, xJ, xT, xL, lL⟩ := id hC
  obtain ⟨hj, jr, jk, jc, jo⟩ := id xJ
  obtain ⟨hC8, hP8, hW⟩ := id hA
  refine zr_aload_n dX9_isDecided_0 rfl ?_
  refine zr_iload_n dX9_isDecided_1 rfl ?_
  exact zr_callV (rest := []) dX9_isDecided_2 vX9_94 (qX9_requireCaseX hX (p := p) hC hA hno hN) (by decide) (by decide) (by decide) rfl rfl (Nat.le_of_ble_eq_true rfl) xo (by decide) rfl (fun v s h => by cases h.1) (fun E s h => h)

set_option maxHeartbeats 400000 in
set_option maxRecDepth 100000 in
theorem qX9_isTangled {X : zX} (hX : X.1.stackTraces = false) {σ : zS} {x : Nat} {A S : zDk} {m : Nat} {U : Nat → zDk} {n : Nat} {T : Nat → Int32} {ll : Nat} {ln : Nat → Int32} {hs kf ld dt dc : Int32} {i : Nat} (hC : zKt x A S m U n T ll ln hs kf ld dt dc σ) (hA : zDw A) (hi : i < kC A) : zMet X mX9_isTangled yX9_isTangled 7 0 0 [.ref x, .int (nI i)] σ (zI (fun y_ s_ => y_ = zvt A i ∧ s_ = σ)) := by
  refine zMet_of (ls := [some (.ref x), some (.int (nI i))]) rfl (by decide +kernel) rfl (fun h => by cases h) hX (Nat.le_of_ble_eq_true rfl) rfl ?_
  obtain ⟨K, lf, xo, xA, xK, wK, xS, xH, xJ, xT, xL, lL⟩ := id hC
  obtain ⟨hj, jr, jk, jc, jo⟩ := id xJ
  obtain ⟨hC8, hP8, hW⟩ := id hA
  refine zr_aload_n dX9_isTangled_0 rfl ?_
  refine zr_iload_n dX9_isTangled_1 rfl ?_
  refine zr_callVv [] dX9_isTangled_2 vX9_94 (qX9_requireCase hX (i := i) hC hA (by omega)) xo (by decide) (by decide) (by decide) rfl rfl (Nat.le_of_ble_eq_true rfl) (by decide) rfl (fun s_ h_ => ?_)
  rw [h_]; clear h_
  refine zr_aload_n dX9_isTangled_5 rfl ?_
  refine zr_getfield dX9_isTangled_6 fX9_20 xo rfl (by decide) ?_
  refine zr_iload_n dX9_isTangled_9 rfl ?_
  refine zr_pVi [] dX9_isTangled_10 vX9_228 (qX3_hasVerdictTangled hX (i := i) xA hA (by omega)) (zDA.obj xA) (by decide) (by decide) (by decide) rfl rfl (Nat.le_of_ble_eq_true rfl) (by decide) rfl ?_
  exact zr_ireturn dX9_isTangled_13 rfl (nar_zvt _ _) (⟨_, rfl, rfl, rfl⟩)

set_option maxHeartbeats 400000 in
set_option maxRecDepth 100000 in
theorem qX9_isTangledX {X : zX} (hX : X.1.stackTraces = false) {σ : zS} {x : Nat} {A S : zDk} {m : Nat} {U : Nat → zDk} {n : Nat} {T : Nat → Int32} {ll : Nat} {ln : Nat → Int32} {hs kf ld dt dc : Int32} {p : Int32} (hC : zKt x A S m U n T ll ln hs kf ld dt dc σ) (hA : zDw A) (hno : ¬ (¬ p < 0 ∧ p < nI (kC A))) (hN : σ.2 = none) : zMet X mX9_isTangled yX9_isTangled 7 1 6 [.ref x, .int p] σ (fun o s => o = .inr "java/lang/IndexOutOfBoundsException" ∧ s = σ) := by
  refine zMet_of (ls := [some (.ref x), some (.int p)]) rfl (by decide +kernel) rfl (fun h => by cases h) hX (Nat.le_of_ble_eq_true rfl) rfl ?_
  obtain ⟨K, lf, xo, xA, xK, wK, xS, xH, xJ, xT, xL, lL⟩ := id hC
  obtain ⟨hj, jr, jk, jc, jo⟩ := id xJ
  obtain ⟨hC8, hP8, hW⟩ := id hA
  refine zr_aload_n dX9_isTangled_0 rfl ?_
  refine zr_iload_n dX9_isTangled_1 rfl ?_
  exact zr_callV (rest := []) dX9_isTangled_2 vX9_94 (qX9_requireCaseX hX (p := p) hC hA hno hN) (by decide) (by decide) (by decide) rfl rfl (Nat.le_of_ble_eq_true rfl) xo (by decide) rfl (fun v s h => by cases h.1) (fun E s h => h)

set_option maxHeartbeats 400000 in
set_option maxRecDepth 100000 in
theorem qX9_precedentOf {X : zX} (hX : X.1.stackTraces = false) {σ : zS} {x : Nat} {A S : zDk} {m : Nat} {U : Nat → zDk} {n : Nat} {T : Nat → Int32} {ll : Nat} {ln : Nat → Int32} {hs kf ld dt dc : Int32} {i : Nat} (hC : zKt x A S m U n T ll ln hs kf ld dt dc σ) (hA : zDw A) (hi : i < kC A) (hr : ¬ kR A i = -1) : zMet X mX9_precedentOf yX9_precedentOf 7 0 0 [.ref x, .int (nI i)] σ (zI (fun y_ s_ => y_ = kR A i ∧ s_ = σ)) := by
  refine zMet_of (ls := [some (.ref x), some (.int (nI i))]) rfl (by decide +kernel) rfl (fun h => by cases h) hX (Nat.le_of_ble_eq_true rfl) rfl ?_
  obtain ⟨K, lf, xo, xA, xK, wK, xS, xH, xJ, xT, xL, lL⟩ := id hC
  obtain ⟨hj, jr, jk, jc, jo⟩ := id xJ
  obtain ⟨hC8, hP8, hW⟩ := id hA
  refine zr_aload_n dX9_precedentOf_0 rfl ?_
  refine zr_iload_n dX9_precedentOf_1 rfl ?_
  refine zr_callVv [] dX9_precedentOf_2 vX9_94 (qX9_requireCase hX (i := i) hC hA (by omega)) xo (by decide) (by decide) (by decide) rfl rfl (Nat.le_of_ble_eq_true rfl) (by decide) rfl (fun s_ h_ => ?_)
  rw [h_]; clear h_
  refine zr_aload_n dX9_precedentOf_5 rfl ?_
  refine zr_getfield dX9_precedentOf_6 fX9_20 xo rfl (by decide) ?_
  refine zr_iload_n dX9_precedentOf_9 rfl ?_
  refine zr_pVi [] dX9_precedentOf_10 vX9_241 (qX3_hasVerdict hX (i := i) xA hA (by omega)) (zDA.obj xA) (by decide) (by decide) (by decide) rfl rfl (Nat.le_of_ble_eq_true rfl) (by decide) rfl ?_
  refine zr_if_ne (tgt := 26) dX9_precedentOf_13 (by decide) (fun c_13 => ?_) (fun c_13 => absurd c_13 (fun q => hr (ite01.mp q)))
  refine zr_aload_n dX9_precedentOf_26 rfl ?_
  refine zr_getfield dX9_precedentOf_27 fX9_20 xo rfl (by decide) ?_
  obtain ⟨wr1, rr1, mr1, tr1, ar1, fr1, ca1, cb1, cc1, cd1, ce1, cf1, cw1⟩ := id xA
  refine zr_getfield dX9_precedentOf_30 fX9_235 ca1 rfl (by decide) ?_
  refine zr_iload_n dX9_precedentOf_33 rfl ?_
  refine zr_iaload dX9_precedentOf_34 cc1 (vp_in_nI (n := i) (by omega) (by omega)) ?_
  rw [nI_clamp (n := i) (by omega)]
  refine zr_eqi (x' := (kR A i)) (cw1 i (by omega)).2.1.1 ?_
  exact zr_ireturn dX9_precedentOf_35 rfl (rfl) (⟨_, rfl, rfl, rfl⟩)

set_option maxHeartbeats 400000 in
set_option maxRecDepth 100000 in
theorem qX9_precedentOfX {X : zX} (hX : X.1.stackTraces = false) {σ : zS} {x : Nat} {A S : zDk} {m : Nat} {U : Nat → zDk} {n : Nat} {T : Nat → Int32} {ll : Nat} {ln : Nat → Int32} {hs kf ld dt dc : Int32} {p : Int32} (hC : zKt x A S m U n T ll ln hs kf ld dt dc σ) (hA : zDw A) (hno : ¬ (¬ p < 0 ∧ p < nI (kC A))) (hN : σ.2 = none) : zMet X mX9_precedentOf yX9_precedentOf 7 1 6 [.ref x, .int p] σ (fun o s => o = .inr "java/lang/IndexOutOfBoundsException" ∧ s = σ) := by
  refine zMet_of (ls := [some (.ref x), some (.int p)]) rfl (by decide +kernel) rfl (fun h => by cases h) hX (Nat.le_of_ble_eq_true rfl) rfl ?_
  obtain ⟨K, lf, xo, xA, xK, wK, xS, xH, xJ, xT, xL, lL⟩ := id hC
  obtain ⟨hj, jr, jk, jc, jo⟩ := id xJ
  obtain ⟨hC8, hP8, hW⟩ := id hA
  refine zr_aload_n dX9_precedentOf_0 rfl ?_
  refine zr_iload_n dX9_precedentOf_1 rfl ?_
  exact zr_callV (rest := []) dX9_precedentOf_2 vX9_94 (qX9_requireCaseX hX (p := p) hC hA hno hN) (by decide) (by decide) (by decide) rfl rfl (Nat.le_of_ble_eq_true rfl) xo (by decide) rfl (fun v s h => by cases h.1) (fun E s h => h)

set_option maxHeartbeats 400000 in
set_option maxRecDepth 100000 in
theorem qX9_precedentOfN {X : zX} (hX : X.1.stackTraces = false) {σ : zS} {x : Nat} {A S : zDk} {m : Nat} {U : Nat → zDk} {n : Nat} {T : Nat → Int32} {ll : Nat} {ln : Nat → Int32} {hs kf ld dt dc : Int32} {i : Nat} (hC : zKt x A S m U n T ll ln hs kf ld dt dc σ) (hA : zDw A) (hi : i < kC A) (hr : kR A i = -1) (hN : σ.2 = none) : zMet X mX9_precedentOf yX9_precedentOf 7 1 6 [.ref x, .int (nI i)] σ (fun o s => o = .inr "java/util/NoSuchElementException" ∧ s = σ) := by
  refine zMet_of (ls := [some (.ref x), some (.int (nI i))]) rfl (by decide +kernel) rfl (fun h => by cases h) hX (Nat.le_of_ble_eq_true rfl) rfl ?_
  obtain ⟨K, lf, xo, xA, xK, wK, xS, xH, xJ, xT, xL, lL⟩ := id hC
  obtain ⟨hj, jr, jk, jc, jo⟩ := id xJ
  obtain ⟨hC8, hP8, hW⟩ := id hA
  refine zr_aload_n dX9_precedentOf_0 rfl ?_
  refine zr_iload_n dX9_precedentOf_1 rfl ?_
  refine zr_callVv [] dX9_precedentOf_2 vX9_94 (qX9_requireCase hX (i := i) hC hA (by omega)) xo (by decide) (by decide) (by decide) rfl rfl (Nat.le_of_ble_eq_true rfl) (by decide) rfl (fun s_ h_ => ?_)
  rw [h_]; clear h_
  refine zr_aload_n dX9_precedentOf_5 rfl ?_
  refine zr_getfield dX9_precedentOf_6 fX9_20 xo rfl (by decide) ?_
  refine zr_iload_n dX9_precedentOf_9 rfl ?_
  refine zr_pVi [] dX9_precedentOf_10 vX9_241 (qX3_hasVerdict hX (i := i) xA hA (by omega)) (zDA.obj xA) (by decide) (by decide) (by decide) rfl rfl (Nat.le_of_ble_eq_true rfl) (by decide) rfl ?_
  refine zr_if_ne (tgt := 26) dX9_precedentOf_13 (by decide) (fun c_13 => absurd (ite01.mpr hr) c_13) (fun c_13 => ?_)
  exact zr_thrN dX9_precedentOf_16 dX9_precedentOf_19 dX9_precedentOf_20 dX9_precedentOf_22 dX9_precedentOf_25 thX9_150_244 rfl (by decide) (by decide) (by decide) (by decide) (⟨rfl, zNN hN⟩)

set_option maxHeartbeats 400000 in
set_option maxRecDepth 100000 in
theorem qX9_precedentCount {X : zX} (hX : X.1.stackTraces = false) {σ : zS} {x : Nat} {A S : zDk} {m : Nat} {U : Nat → zDk} {n : Nat} {T : Nat → Int32} {ll : Nat} {ln : Nat → Int32} {hs kf ld dt dc : Int32} (hC : zKt x A S m U n T ll ln hs kf ld dt dc σ) (hA : zDw A)  : zMet X mX9_precedentCount yX9_precedentCount 0 0 0 [.ref x] σ (zI (fun y_ s_ => y_ = nI (kP A) ∧ s_ = σ)) := by
  refine zMet_of (ls := [some (.ref x)]) rfl (by decide +kernel) rfl (fun h => by cases h) hX (Nat.le_of_ble_eq_true rfl) rfl ?_
  obtain ⟨K, lf, xo, xA, xK, wK, xS, xH, xJ, xT, xL, lL⟩ := id hC
  obtain ⟨hj, jr, jk, jc, jo⟩ := id xJ
  obtain ⟨hC8, hP8, hW⟩ := id hA
  refine zr_aload_n dX9_precedentCount_0 rfl ?_
  refine zr_getfield dX9_precedentCount_1 fX9_20 xo rfl (by decide) ?_
  obtain ⟨wr1, rr1, mr1, tr1, ar1, fr1, ca1, cb1, cc1, cd1, ce1, cf1, cw1⟩ := id xA
  refine zr_getfield dX9_precedentCount_4 fX9_251 ca1 rfl (by decide) ?_
  exact zr_ireturn dX9_precedentCount_7 rfl (rfl) (⟨_, rfl, rfl, rfl⟩)

set_option maxHeartbeats 400000 in
set_option maxRecDepth 100000 in
theorem qX9_requirePrecedent {X : zX} (hX : X.1.stackTraces = false) {σ : zS} {x : Nat} {A S : zDk} {m : Nat} {U : Nat → zDk} {n : Nat} {T : Nat → Int32} {ll : Nat} {ln : Nat → Int32} {hs kf ld dt dc : Int32} {i : Nat} (hC : zKt x A S m U n T ll ln hs kf ld dt dc σ) (hA : zDw A) (hi : i < kP A) : zMet X mX9_requirePrecedent yX9_requirePrecedent 0 0 0 [.ref x, .int (nI i)] σ (zV (fun s_ => s_ = σ)) := by
  refine zMet_of (ls := [some (.ref x), some (.int (nI i))]) rfl (by decide +kernel) rfl (fun h => by cases h) hX (Nat.le_of_ble_eq_true rfl) rfl ?_
  obtain ⟨K, lf, xo, xA, xK, wK, xS, xH, xJ, xT, xL, lL⟩ := id hC
  obtain ⟨hj, jr, jk, jc, jo⟩ := id xJ
  obtain ⟨hC8, hP8, hW⟩ := id hA
  refine zr_iload_n dX9_requirePrecedent_0 rfl ?_
  refine zr_if_lt (tgt := 15) dX9_requirePrecedent_1 (by decide) (fun c_1 => absurd c_1 (fun h => absurd ((nI_ltI (a := i) (b := 0) (by omega) (by omega)).mp h) (by omega))) (fun c_1 => ?_)
  refine zr_iload_n dX9_requirePrecedent_4 rfl ?_
  refine zr_aload_n dX9_requirePrecedent_5 rfl ?_
  refine zr_getfield dX9_requirePrecedent_6 fX9_20 xo rfl (by decide) ?_
  obtain ⟨wr1, rr1, mr1, tr1, ar1, fr1, ca1, cb1, cc1, cd1, ce1, cf1, cw1⟩ := id xA
  refine zr_getfield dX9_requirePrecedent_9 fX9_251 ca1 rfl (by decide) ?_
  refine zr_icmp_lt (tgt := 25) dX9_requirePrecedent_12 (by decide) (fun c_12 => ?_) (fun c_12 => absurd ((nI_ltI (a := i) (b := kP A) (by omega) (by omega)).mpr (by omega)) c_12)
  exact zr_return dX9_requirePrecedent_25 rfl (⟨rfl, rfl⟩)

set_option maxHeartbeats 400000 in
set_option maxRecDepth 100000 in
theorem qX9_requirePrecedentX {X : zX} (hX : X.1.stackTraces = false) {σ : zS} {x : Nat} {A S : zDk} {m : Nat} {U : Nat → zDk} {n : Nat} {T : Nat → Int32} {ll : Nat} {ln : Nat → Int32} {hs kf ld dt dc : Int32} {p : Int32} (hC : zKt x A S m U n T ll ln hs kf ld dt dc σ) (hA : zDw A) (hno : ¬ (¬ p < 0 ∧ p < nI (kP A))) (hN : σ.2 = none) : zMet X mX9_requirePrecedent yX9_requirePrecedent 6 1 6 [.ref x, .int p] σ (fun o s => o = .inr "java/lang/IndexOutOfBoundsException" ∧ s = σ) := by
  refine zMet_of (ls := [some (.ref x), some (.int p)]) rfl (by decide +kernel) rfl (fun h => by cases h) hX (Nat.le_of_ble_eq_true rfl) rfl ?_
  obtain ⟨K, lf, xo, xA, xK, wK, xS, xH, xJ, xT, xL, lL⟩ := id hC
  obtain ⟨hj, jr, jk, jc, jo⟩ := id xJ
  obtain ⟨hC8, hP8, hW⟩ := id hA
  refine zr_iload_n dX9_requirePrecedent_0 rfl ?_
  refine zr_if_lt (tgt := 15) dX9_requirePrecedent_1 (by decide) (fun c_1 => ?_) (fun c_1 => ?_)
  · exact zr_thrN dX9_requirePrecedent_15 dX9_requirePrecedent_18 dX9_requirePrecedent_19 dX9_requirePrecedent_21 dX9_requirePrecedent_24 thX9_357_249 rfl (by decide) (by decide) (by decide) (by decide) (⟨rfl, zNN hN⟩)
  · refine zr_iload_n dX9_requirePrecedent_4 rfl ?_
    refine zr_aload_n dX9_requirePrecedent_5 rfl ?_
    refine zr_getfield dX9_requirePrecedent_6 fX9_20 xo rfl (by decide) ?_
    obtain ⟨wr1, rr1, mr1, tr1, ar1, fr1, ca1, cb1, cc1, cd1, ce1, cf1, cw1⟩ := id xA
    refine zr_getfield dX9_requirePrecedent_9 fX9_251 ca1 rfl (by decide) ?_
    refine zr_icmp_lt (tgt := 25) dX9_requirePrecedent_12 (by decide) (fun c_12 => ?_) (fun c_12 => ?_)
    · exact absurd ⟨c_1, c_12⟩ hno
    · exact zr_thrN dX9_requirePrecedent_15 dX9_requirePrecedent_18 dX9_requirePrecedent_19 dX9_requirePrecedent_21 dX9_requirePrecedent_24 thX9_357_249 rfl (by decide) (by decide) (by decide) (by decide) (⟨rfl, zNN hN⟩)

set_option maxHeartbeats 400000 in
set_option maxRecDepth 100000 in
theorem qX9_isAppealed {X : zX} (hX : X.1.stackTraces = false) {σ : zS} {x : Nat} {A S : zDk} {m : Nat} {U : Nat → zDk} {n : Nat} {T : Nat → Int32} {ll : Nat} {ln : Nat → Int32} {hs kf ld dt dc : Int32} {i : Nat} (hC : zKt x A S m U n T ll ln hs kf ld dt dc σ) (hA : zDw A) (hi : i < kP A) : zMet X mX9_isAppealed yX9_isAppealed 7 0 0 [.ref x, .int (nI i)] σ (zI (fun y_ s_ => y_ = kA A i ∧ s_ = σ)) := by
  refine zMet_of (ls := [some (.ref x), some (.int (nI i))]) rfl (by decide +kernel) rfl (fun h => by cases h) hX (Nat.le_of_ble_eq_true rfl) rfl ?_
  obtain ⟨K, lf, xo, xA, xK, wK, xS, xH, xJ, xT, xL, lL⟩ := id hC
  obtain ⟨hj, jr, jk, jc, jo⟩ := id xJ
  obtain ⟨hC8, hP8, hW⟩ := id hA
  refine zr_aload_n dX9_isAppealed_0 rfl ?_
  refine zr_iload_n dX9_isAppealed_1 rfl ?_
  refine zr_callVv [] dX9_isAppealed_2 vX9_254 (qX9_requirePrecedent hX (i := i) hC hA (by omega)) xo (by decide) (by decide) (by decide) rfl rfl (Nat.le_of_ble_eq_true rfl) (by decide) rfl (fun s_ h_ => ?_)
  rw [h_]; clear h_
  refine zr_aload_n dX9_isAppealed_5 rfl ?_
  refine zr_getfield dX9_isAppealed_6 fX9_20 xo rfl (by decide) ?_
  obtain ⟨wr1, rr1, mr1, tr1, ar1, fr1, ca1, cb1, cc1, cd1, ce1, cf1, cw1⟩ := id xA
  refine zr_getfield dX9_isAppealed_9 fX9_257 ca1 rfl (by decide) ?_
  refine zr_iload_n dX9_isAppealed_12 rfl ?_
  refine zr_baload dX9_isAppealed_13 cf1 (vp_in_nI (n := i) (by omega) (by omega)) ?_
  rw [nI_clamp (n := i) (by omega)]
  refine zr_eqi (x' := (kA A i)) (cw1 i (by omega)).2.1.2.2.2 ?_
  exact zr_ireturn dX9_isAppealed_14 rfl (nar_01 ((hW i (by omega)).2.2.2.2.1)) (⟨_, rfl, rfl, rfl⟩)

set_option maxHeartbeats 400000 in
set_option maxRecDepth 100000 in
theorem qX9_casesOn {X : zX} (hX : X.1.stackTraces = false) {σ : zS} {x : Nat} {A S : zDk} {m : Nat} {U : Nat → zDk} {n : Nat} {T : Nat → Int32} {ll : Nat} {ln : Nat → Int32} {hs kf ld dt dc : Int32} {i : Nat} (hC : zKt x A S m U n T ll ln hs kf ld dt dc σ) (hA : zDw A) (hi : i < kP A) : zMet X mX9_casesOn yX9_casesOn 7 0 0 [.ref x, .int (nI i)] σ (zI (fun y_ s_ => y_ = nI (zCt (fun t => decide (kR A t = nI i)) (kC A)) ∧ s_ = σ)) := by
  refine zMet_of (ls := [some (.ref x), some (.int (nI i))]) rfl (by decide +kernel) rfl (fun h => by cases h) hX (Nat.le_of_ble_eq_true rfl) rfl ?_
  obtain ⟨K, lf, xo, xA, xK, wK, xS, xH, xJ, xT, xL, lL⟩ := id hC
  obtain ⟨hj, jr, jk, jc, jo⟩ := id xJ
  obtain ⟨hC8, hP8, hW⟩ := id hA
  refine zr_aload_n dX9_casesOn_0 rfl ?_
  refine zr_iload_n dX9_casesOn_1 rfl ?_
  refine zr_callVv [] dX9_casesOn_2 vX9_254 (qX9_requirePrecedent hX (i := i) hC hA (by omega)) xo (by decide) (by decide) (by decide) rfl rfl (Nat.le_of_ble_eq_true rfl) (by decide) rfl (fun s_ h_ => ?_)
  rw [h_]; clear h_
  refine zr_aload_n dX9_casesOn_5 rfl ?_
  refine zr_getfield dX9_casesOn_6 fX9_20 xo rfl (by decide) ?_
  refine zr_iload_n dX9_casesOn_9 rfl ?_
  refine zr_pVi [] dX9_casesOn_10 vX9_261 (qX3_countRestingOn hX (p := i) xA hA ) (zDA.obj xA) (by decide) (by decide) (by decide) rfl rfl (Nat.le_of_ble_eq_true rfl) (by decide) rfl ?_
  exact zr_ireturn dX9_casesOn_13 rfl (rfl) (⟨_, rfl, rfl, rfl⟩)

set_option maxHeartbeats 400000 in
set_option maxRecDepth 100000 in
theorem qX9_isAppealedX {X : zX} (hX : X.1.stackTraces = false) {σ : zS} {x : Nat} {A S : zDk} {m : Nat} {U : Nat → zDk} {n : Nat} {T : Nat → Int32} {ll : Nat} {ln : Nat → Int32} {hs kf ld dt dc : Int32} {p : Int32} (hC : zKt x A S m U n T ll ln hs kf ld dt dc σ) (hA : zDw A) (hno : ¬ (¬ p < 0 ∧ p < nI (kP A))) (hN : σ.2 = none) : zMet X mX9_isAppealed yX9_isAppealed 7 1 6 [.ref x, .int p] σ (fun o s => o = .inr "java/lang/IndexOutOfBoundsException" ∧ s = σ) := by
  refine zMet_of (ls := [some (.ref x), some (.int p)]) rfl (by decide +kernel) rfl (fun h => by cases h) hX (Nat.le_of_ble_eq_true rfl) rfl ?_
  obtain ⟨K, lf, xo, xA, xK, wK, xS, xH, xJ, xT, xL, lL⟩ := id hC
  obtain ⟨hj, jr, jk, jc, jo⟩ := id xJ
  obtain ⟨hC8, hP8, hW⟩ := id hA
  refine zr_aload_n dX9_isAppealed_0 rfl ?_
  refine zr_iload_n dX9_isAppealed_1 rfl ?_
  exact zr_callV (rest := []) dX9_isAppealed_2 vX9_254 (qX9_requirePrecedentX hX (p := p) hC hA hno hN) (by decide) (by decide) (by decide) rfl rfl (Nat.le_of_ble_eq_true rfl) xo (by decide) rfl (fun v s h => by cases h.1) (fun E s h => h)

set_option maxHeartbeats 400000 in
set_option maxRecDepth 100000 in
theorem qX9_casesOnX {X : zX} (hX : X.1.stackTraces = false) {σ : zS} {x : Nat} {A S : zDk} {m : Nat} {U : Nat → zDk} {n : Nat} {T : Nat → Int32} {ll : Nat} {ln : Nat → Int32} {hs kf ld dt dc : Int32} {p : Int32} (hC : zKt x A S m U n T ll ln hs kf ld dt dc σ) (hA : zDw A) (hno : ¬ (¬ p < 0 ∧ p < nI (kP A))) (hN : σ.2 = none) : zMet X mX9_casesOn yX9_casesOn 7 1 6 [.ref x, .int p] σ (fun o s => o = .inr "java/lang/IndexOutOfBoundsException" ∧ s = σ) := by
  refine zMet_of (ls := [some (.ref x), some (.int p)]) rfl (by decide +kernel) rfl (fun h => by cases h) hX (Nat.le_of_ble_eq_true rfl) rfl ?_
  obtain ⟨K, lf, xo, xA, xK, wK, xS, xH, xJ, xT, xL, lL⟩ := id hC
  obtain ⟨hj, jr, jk, jc, jo⟩ := id xJ
  obtain ⟨hC8, hP8, hW⟩ := id hA
  refine zr_aload_n dX9_casesOn_0 rfl ?_
  refine zr_iload_n dX9_casesOn_1 rfl ?_
  exact zr_callV (rest := []) dX9_casesOn_2 vX9_254 (qX9_requirePrecedentX hX (p := p) hC hA hno hN) (by decide) (by decide) (by decide) rfl rfl (Nat.le_of_ble_eq_true rfl) xo (by decide) rfl (fun v s h => by cases h.1) (fun E s h => h)

set_option maxHeartbeats 400000 in
set_option maxRecDepth 100000 in
theorem qX9_decidedCount {X : zX} (hX : X.1.stackTraces = false) {σ : zS} {x : Nat} {A S : zDk} {m : Nat} {U : Nat → zDk} {n : Nat} {T : Nat → Int32} {ll : Nat} {ln : Nat → Int32} {hs kf ld dt dc : Int32} (hC : zKt x A S m U n T ll ln hs kf ld dt dc σ) (hA : zDw A)  : zMet X mX9_decidedCount yX9_decidedCount 7 0 0 [.ref x] σ (zI (fun y_ s_ => y_ = nI (zCt (fun i => decide (¬ kR A i = -1)) (kC A)) ∧ s_ = σ)) := by
  refine zMet_of (ls := [some (.ref x)]) rfl (by decide +kernel) rfl (fun h => by cases h) hX (Nat.le_of_ble_eq_true rfl) rfl ?_
  obtain ⟨K, lf, xo, xA, xK, wK, xS, xH, xJ, xT, xL, lL⟩ := id hC
  obtain ⟨hj, jr, jk, jc, jo⟩ := id xJ
  obtain ⟨hC8, hP8, hW⟩ := id hA
  refine zr_aload_n dX9_decidedCount_0 rfl ?_
  refine zr_getfield dX9_decidedCount_1 fX9_20 xo rfl (by decide) ?_
  refine zr_pVi [] dX9_decidedCount_4 vX9_264 (qX3_countDecided hX  xA hA ) (zDA.obj xA) (by decide) (by decide) (by decide) rfl rfl (Nat.le_of_ble_eq_true rfl) (by decide) rfl ?_
  exact zr_ireturn dX9_decidedCount_7 rfl (rfl) (⟨_, rfl, rfl, rfl⟩)

set_option maxHeartbeats 400000 in
set_option maxRecDepth 100000 in
theorem qX9_tangledCount {X : zX} (hX : X.1.stackTraces = false) {σ : zS} {x : Nat} {A S : zDk} {m : Nat} {U : Nat → zDk} {n : Nat} {T : Nat → Int32} {ll : Nat} {ln : Nat → Int32} {hs kf ld dt dc : Int32} (hC : zKt x A S m U n T ll ln hs kf ld dt dc σ) (hA : zDw A)  : zMet X mX9_tangledCount yX9_tangledCount 7 0 0 [.ref x] σ (zI (fun y_ s_ => y_ = nI (zCt (fun i => decide (¬ zvt A i = 0)) (kC A)) ∧ s_ = σ)) := by
  refine zMet_of (ls := [some (.ref x)]) rfl (by decide +kernel) rfl (fun h => by cases h) hX (Nat.le_of_ble_eq_true rfl) rfl ?_
  obtain ⟨K, lf, xo, xA, xK, wK, xS, xH, xJ, xT, xL, lL⟩ := id hC
  obtain ⟨hj, jr, jk, jc, jo⟩ := id xJ
  obtain ⟨hC8, hP8, hW⟩ := id hA
  refine zr_aload_n dX9_tangledCount_0 rfl ?_
  refine zr_getfield dX9_tangledCount_1 fX9_20 xo rfl (by decide) ?_
  refine zr_pVi [] dX9_tangledCount_4 vX9_267 (qX3_countTangled hX  xA hA ) (zDA.obj xA) (by decide) (by decide) (by decide) rfl rfl (Nat.le_of_ble_eq_true rfl) (by decide) rfl ?_
  exact zr_ireturn dX9_tangledCount_7 rfl (rfl) (⟨_, rfl, rfl, rfl⟩)

set_option maxHeartbeats 400000 in
set_option maxRecDepth 100000 in
theorem qX9_faultPosition {X : zX} (hX : X.1.stackTraces = false) {σ : zS} {x : Nat} {A S : zDk} {m : Nat} {U : Nat → zDk} {n : Nat} {T : Nat → Int32} {ll : Nat} {ln : Nat → Int32} {hs kf ld dt dc : Int32} (hC : zKt x A S m U n T ll ln hs kf ld dt dc σ) (hA : zDw A) (hk : ¬ kf = -1) : zMet X mX9_faultPosition yX9_faultPosition 7 0 0 [.ref x] σ (zI (fun y_ s_ => y_ = kf ∧ s_ = σ)) := by
  refine zMet_of (ls := [some (.ref x)]) rfl (by decide +kernel) rfl (fun h => by cases h) hX (Nat.le_of_ble_eq_true rfl) rfl ?_
  obtain ⟨K, lf, xo, xA, xK, wK, xS, xH, xJ, xT, xL, lL⟩ := id hC
  obtain ⟨hj, jr, jk, jc, jo⟩ := id xJ
  obtain ⟨hC8, hP8, hW⟩ := id hA
  refine zr_aload_n dX9_faultPosition_0 rfl ?_
  refine zr_getfield dX9_faultPosition_1 fX9_68 xo rfl (by decide) ?_
  refine zr_iconst (v := -1) dX9_faultPosition_4 (by decide) ?_
  refine zr_icmp_ne (tgt := 19) dX9_faultPosition_5 (by decide) (fun c_5 => ?_) (fun c_5 => absurd c_5 (hk))
  refine zr_aload_n dX9_faultPosition_19 rfl ?_
  refine zr_getfield dX9_faultPosition_20 fX9_68 xo rfl (by decide) ?_
  exact zr_ireturn dX9_faultPosition_23 rfl (rfl) (⟨_, rfl, rfl, rfl⟩)

set_option maxHeartbeats 400000 in
set_option maxRecDepth 100000 in
theorem qX9_faultPositionN {X : zX} (hX : X.1.stackTraces = false) {σ : zS} {x : Nat} {A S : zDk} {m : Nat} {U : Nat → zDk} {n : Nat} {T : Nat → Int32} {ll : Nat} {ln : Nat → Int32} {hs kf ld dt dc : Int32} (hC : zKt x A S m U n T ll ln hs kf ld dt dc σ) (hA : zDw A) (hk : kf = -1) (hN : σ.2 = none) : zMet X mX9_faultPosition yX9_faultPosition 7 1 6 [.ref x] σ (fun o s => o = .inr "java/util/NoSuchElementException" ∧ s = σ) := by
  refine zMet_of (ls := [some (.ref x)]) rfl (by decide +kernel) rfl (fun h => by cases h) hX (Nat.le_of_ble_eq_true rfl) rfl ?_
  obtain ⟨K, lf, xo, xA, xK, wK, xS, xH, xJ, xT, xL, lL⟩ := id hC
  obtain ⟨hj, jr, jk, jc, jo⟩ := id xJ
  obtain ⟨hC8, hP8, hW⟩ := id hA
  refine zr_aload_n dX9_faultPosition_0 rfl ?_
  refine zr_getfield dX9_faultPosition_1 fX9_68 xo rfl (by decide) ?_
  refine zr_iconst (v := -1) dX9_faultPosition_4 (by decide) ?_
  refine zr_icmp_ne (tgt := 19) dX9_faultPosition_5 (by decide) (fun c_5 => absurd (hk) c_5) (fun c_5 => ?_)
  exact zr_thrW dX9_faultPosition_8 dX9_faultPosition_11 dX9_faultPosition_12 dX9_faultPosition_15 dX9_faultPosition_18 thX9_150_341 rfl (by decide) (by decide) (by decide) (by decide) (⟨rfl, zNN hN⟩)

set_option maxHeartbeats 400000 in
set_option maxRecDepth 100000 in
theorem qX9_lineCharacter {X : zX} (hX : X.1.stackTraces = false) {σ : zS} {x : Nat} {A S : zDk} {m : Nat} {U : Nat → zDk} {n : Nat} {T : Nat → Int32} {ll : Nat} {ln : Nat → Int32} {hs kf ld dt dc : Int32} {j : Nat} (hC : zKt x A S m U n T ll ln hs kf ld dt dc σ) (hA : zDw A) (hj8 : j < ll) (hll : ll ≤ 400) (hch : ∀ k, k < ll → narrow .char (.int (ln k)) = .int (ln k)) : zMet X mX9_lineCharacter yX9_lineCharacter 7 0 0 [.ref x, .int (nI j)] σ (zI (fun y_ s_ => y_ = ln j ∧ s_ = σ)) := by
  refine zMet_of (ls := [some (.ref x), some (.int (nI j))]) rfl (by decide +kernel) rfl (fun h => by cases h) hX (Nat.le_of_ble_eq_true rfl) rfl ?_
  obtain ⟨K, lf, xo, xA, xK, wK, xS, xH, xJ, xT, xL, lL⟩ := id hC
  obtain ⟨hj, jr, jk, jc, jo⟩ := id xJ
  obtain ⟨hC8, hP8, hW⟩ := id hA
  refine zr_iload_n dX9_lineCharacter_0 rfl ?_
  refine zr_if_lt (tgt := 12) dX9_lineCharacter_1 (by decide) (fun c_1 => absurd c_1 (fun h => absurd ((nI_ltI (a := j) (b := 0) (by omega) (by omega)).mp h) (by omega))) (fun c_1 => ?_)
  refine zr_iload_n dX9_lineCharacter_4 rfl ?_
  refine zr_aload_n dX9_lineCharacter_5 rfl ?_
  refine zr_getfield dX9_lineCharacter_6 fX9_60 xo rfl (by decide) ?_
  refine zr_icmp_lt (tgt := 23) dX9_lineCharacter_9 (by decide) (fun c_9 => ?_) (fun c_9 => absurd ((nI_ltI (a := j) (b := ll) (by omega) (by omega)).mpr (by omega)) c_9)
  refine zr_aload_n dX9_lineCharacter_23 rfl ?_
  refine zr_getfield dX9_lineCharacter_24 fX9_56 xo rfl (by decide) ?_
  refine zr_iload_n dX9_lineCharacter_27 rfl ?_
  refine zr_caload dX9_lineCharacter_28 xL (vp_in_nI (n := j) (by omega) (by omega)) ?_
  rw [nI_clamp (n := j) (by omega)]
  exact zr_ireturn dX9_lineCharacter_29 rfl (by rw [lL j hj8]; exact hch j hj8) (⟨_, rfl, lL j hj8, rfl⟩)

set_option maxHeartbeats 400000 in
set_option maxRecDepth 100000 in
theorem qX9_lineCharacterX {X : zX} (hX : X.1.stackTraces = false) {σ : zS} {x : Nat} {A S : zDk} {m : Nat} {U : Nat → zDk} {n : Nat} {T : Nat → Int32} {ll : Nat} {ln : Nat → Int32} {hs kf ld dt dc : Int32} {p : Int32} (hC : zKt x A S m U n T ll ln hs kf ld dt dc σ) (hA : zDw A) (hno : ¬ (¬ p < 0 ∧ p < nI ll)) (hN : σ.2 = none) : zMet X mX9_lineCharacter yX9_lineCharacter 7 1 6 [.ref x, .int p] σ (fun o s => o = .inr "java/lang/IndexOutOfBoundsException" ∧ s = σ) := by
  refine zMet_of (ls := [some (.ref x), some (.int p)]) rfl (by decide +kernel) rfl (fun h => by cases h) hX (Nat.le_of_ble_eq_true rfl) rfl ?_
  obtain ⟨K, lf, xo, xA, xK, wK, xS, xH, xJ, xT, xL, lL⟩ := id hC
  obtain ⟨hj, jr, jk, jc, jo⟩ := id xJ
  obtain ⟨hC8, hP8, hW⟩ := id hA
  refine zr_iload_n dX9_lineCharacter_0 rfl ?_
  refine zr_if_lt (tgt := 12) dX9_lineCharacter_1 (by decide) (fun c_1 => ?_) (fun c_1 => ?_)
  · exact zr_thrW dX9_lineCharacter_12 dX9_lineCharacter_15 dX9_lineCharacter_16 dX9_lineCharacter_19 dX9_lineCharacter_22 thX9_357_359 rfl (by decide) (by decide) (by decide) (by decide) (⟨rfl, zNN hN⟩)
  · refine zr_iload_n dX9_lineCharacter_4 rfl ?_
    refine zr_aload_n dX9_lineCharacter_5 rfl ?_
    refine zr_getfield dX9_lineCharacter_6 fX9_60 xo rfl (by decide) ?_
    refine zr_icmp_lt (tgt := 23) dX9_lineCharacter_9 (by decide) (fun c_9 => ?_) (fun c_9 => ?_)
    · exact absurd ⟨c_1, c_9⟩ hno
    · exact zr_thrW dX9_lineCharacter_12 dX9_lineCharacter_15 dX9_lineCharacter_16 dX9_lineCharacter_19 dX9_lineCharacter_22 thX9_357_359 rfl (by decide) (by decide) (by decide) (by decide) (⟨rfl, zNN hN⟩)

set_option maxHeartbeats 400000 in
set_option maxRecDepth 100000 in
theorem qX9_requireDenial {X : zX} (hX : X.1.stackTraces = false) {σ : zS} {x : Nat} {A S : zDk} {m : Nat} {U : Nat → zDk} {n : Nat} {T : Nat → Int32} {ll : Nat} {ln : Nat → Int32} {hs kf ld dt dc : Int32} (hC : zKt x A S m U n T ll ln hs kf ld dt dc σ) (hA : zDw A) (hld : ¬ ld = 0) : zMet X mX9_requireDenial yX9_requireDenial 0 0 0 [.ref x] σ (zV (fun s_ => s_ = σ)) := by
  refine zMet_of (ls := [some (.ref x)]) rfl (by decide +kernel) rfl (fun h => by cases h) hX (Nat.le_of_ble_eq_true rfl) rfl ?_
  obtain ⟨K, lf, xo, xA, xK, wK, xS, xH, xJ, xT, xL, lL⟩ := id hC
  obtain ⟨hj, jr, jk, jc, jo⟩ := id xJ
  obtain ⟨hC8, hP8, hW⟩ := id hA
  refine zr_aload_n dX9_requireDenial_0 rfl ?_
  refine zr_getfield dX9_requireDenial_1 fX9_71 xo rfl (by decide) ?_
  refine zr_if_ne (tgt := 18) dX9_requireDenial_4 (by decide) (fun c_4 => ?_) (fun c_4 => absurd c_4 (hld))
  exact zr_return dX9_requireDenial_18 rfl (⟨rfl, rfl⟩)

set_option maxHeartbeats 400000 in
set_option maxRecDepth 100000 in
theorem qX9_requireDenialX {X : zX} (hX : X.1.stackTraces = false) {σ : zS} {x : Nat} {A S : zDk} {m : Nat} {U : Nat → zDk} {n : Nat} {T : Nat → Int32} {ll : Nat} {ln : Nat → Int32} {hs kf ld dt dc : Int32} (hC : zKt x A S m U n T ll ln hs kf ld dt dc σ) (hA : zDw A) (hld : ld = 0) (hN : σ.2 = none) : zMet X mX9_requireDenial yX9_requireDenial 6 1 6 [.ref x] σ (fun o s => o = .inr "java/util/NoSuchElementException" ∧ s = σ) := by
  refine zMet_of (ls := [some (.ref x)]) rfl (by decide +kernel) rfl (fun h => by cases h) hX (Nat.le_of_ble_eq_true rfl) rfl ?_
  obtain ⟨K, lf, xo, xA, xK, wK, xS, xH, xJ, xT, xL, lL⟩ := id hC
  obtain ⟨hj, jr, jk, jc, jo⟩ := id xJ
  obtain ⟨hC8, hP8, hW⟩ := id hA
  refine zr_aload_n dX9_requireDenial_0 rfl ?_
  refine zr_getfield dX9_requireDenial_1 fX9_71 xo rfl (by decide) ?_
  refine zr_if_ne (tgt := 18) dX9_requireDenial_4 (by decide) (fun c_4 => absurd (hld) c_4) (fun c_4 => ?_)
  exact zr_thrW dX9_requireDenial_7 dX9_requireDenial_10 dX9_requireDenial_11 dX9_requireDenial_14 dX9_requireDenial_17 thX9_150_400 rfl (by decide) (by decide) (by decide) (by decide) (⟨rfl, zNN hN⟩)

set_option maxHeartbeats 400000 in
set_option maxRecDepth 100000 in
theorem qX9_denial {X : zX} (hX : X.1.stackTraces = false) {σ : zS} {x : Nat} {A S : zDk} {m : Nat} {U : Nat → zDk} {n : Nat} {T : Nat → Int32} {ll : Nat} {ln : Nat → Int32} {hs kf ld dt dc : Int32} (hC : zKt x A S m U n T ll ln hs kf ld dt dc σ) (hA : zDw A) (hld : ¬ ld = 0) : zMet X mX9_denial yX9_denial 7 0 0 [.ref x] σ (zI (fun y_ s_ => y_ = ld ∧ s_ = σ)) := by
  refine zMet_of (ls := [some (.ref x)]) rfl (by decide +kernel) rfl (fun h => by cases h) hX (Nat.le_of_ble_eq_true rfl) rfl ?_
  obtain ⟨K, lf, xo, xA, xK, wK, xS, xH, xJ, xT, xL, lL⟩ := id hC
  obtain ⟨hj, jr, jk, jc, jo⟩ := id xJ
  obtain ⟨hC8, hP8, hW⟩ := id hA
  refine zr_aload_n dX9_denial_0 rfl ?_
  refine zr_callVv [] dX9_denial_1 vX9_362 (qX9_requireDenial hX hC hA hld) xo (by decide) (by decide) (by decide) rfl rfl (Nat.le_of_ble_eq_true rfl) (by decide) rfl (fun s_ h_ => ?_)
  rw [h_]; clear h_
  refine zr_aload_n dX9_denial_4 rfl ?_
  refine zr_getfield dX9_denial_5 fX9_71 xo rfl (by decide) ?_
  exact zr_ireturn dX9_denial_8 rfl (rfl) (⟨_, rfl, rfl, rfl⟩)

set_option maxHeartbeats 400000 in
set_option maxRecDepth 100000 in
theorem qX9_denialDetail {X : zX} (hX : X.1.stackTraces = false) {σ : zS} {x : Nat} {A S : zDk} {m : Nat} {U : Nat → zDk} {n : Nat} {T : Nat → Int32} {ll : Nat} {ln : Nat → Int32} {hs kf ld dt dc : Int32} (hC : zKt x A S m U n T ll ln hs kf ld dt dc σ) (hA : zDw A) (hld : ¬ ld = 0) : zMet X mX9_denialDetail yX9_denialDetail 7 0 0 [.ref x] σ (zI (fun y_ s_ => y_ = dt ∧ s_ = σ)) := by
  refine zMet_of (ls := [some (.ref x)]) rfl (by decide +kernel) rfl (fun h => by cases h) hX (Nat.le_of_ble_eq_true rfl) rfl ?_
  obtain ⟨K, lf, xo, xA, xK, wK, xS, xH, xJ, xT, xL, lL⟩ := id hC
  obtain ⟨hj, jr, jk, jc, jo⟩ := id xJ
  obtain ⟨hC8, hP8, hW⟩ := id hA
  refine zr_aload_n dX9_denialDetail_0 rfl ?_
  refine zr_callVv [] dX9_denialDetail_1 vX9_362 (qX9_requireDenial hX hC hA hld) xo (by decide) (by decide) (by decide) rfl rfl (Nat.le_of_ble_eq_true rfl) (by decide) rfl (fun s_ h_ => ?_)
  rw [h_]; clear h_
  refine zr_aload_n dX9_denialDetail_4 rfl ?_
  refine zr_getfield dX9_denialDetail_5 fX9_74 xo rfl (by decide) ?_
  exact zr_ireturn dX9_denialDetail_8 rfl (rfl) (⟨_, rfl, rfl, rfl⟩)

set_option maxHeartbeats 400000 in
set_option maxRecDepth 100000 in
theorem qX9_denialCause {X : zX} (hX : X.1.stackTraces = false) {σ : zS} {x : Nat} {A S : zDk} {m : Nat} {U : Nat → zDk} {n : Nat} {T : Nat → Int32} {ll : Nat} {ln : Nat → Int32} {hs kf ld dt dc : Int32} (hC : zKt x A S m U n T ll ln hs kf ld dt dc σ) (hA : zDw A) (hld : ¬ ld = 0) (hdc : ¬ dc = 0) : zMet X mX9_denialCause yX9_denialCause 7 0 0 [.ref x] σ (zI (fun y_ s_ => y_ = dc ∧ s_ = σ)) := by
  refine zMet_of (ls := [some (.ref x)]) rfl (by decide +kernel) rfl (fun h => by cases h) hX (Nat.le_of_ble_eq_true rfl) rfl ?_
  obtain ⟨K, lf, xo, xA, xK, wK, xS, xH, xJ, xT, xL, lL⟩ := id hC
  obtain ⟨hj, jr, jk, jc, jo⟩ := id xJ
  obtain ⟨hC8, hP8, hW⟩ := id hA
  refine zr_aload_n dX9_denialCause_0 rfl ?_
  refine zr_callVv [] dX9_denialCause_1 vX9_362 (qX9_requireDenial hX hC hA hld) xo (by decide) (by decide) (by decide) rfl rfl (Nat.le_of_ble_eq_true rfl) (by decide) rfl (fun s_ h_ => ?_)
  rw [h_]; clear h_
  refine zr_aload_n dX9_denialCause_4 rfl ?_
  refine zr_getfield dX9_denialCause_5 fX9_77 xo rfl (by decide) ?_
  refine zr_if_ne (tgt := 22) dX9_denialCause_8 (by decide) (fun c_8 => ?_) (fun c_8 => absurd c_8 (hdc))
  refine zr_aload_n dX9_denialCause_22 rfl ?_
  refine zr_getfield dX9_denialCause_23 fX9_77 xo rfl (by decide) ?_
  exact zr_ireturn dX9_denialCause_26 rfl (rfl) (⟨_, rfl, rfl, rfl⟩)

set_option maxHeartbeats 400000 in
set_option maxRecDepth 100000 in
theorem qX9_denialCauseN {X : zX} (hX : X.1.stackTraces = false) {σ : zS} {x : Nat} {A S : zDk} {m : Nat} {U : Nat → zDk} {n : Nat} {T : Nat → Int32} {ll : Nat} {ln : Nat → Int32} {hs kf ld dt dc : Int32} (hC : zKt x A S m U n T ll ln hs kf ld dt dc σ) (hA : zDw A) (hld : ¬ ld = 0) (hdc : dc = 0) (hN : σ.2 = none) : zMet X mX9_denialCause yX9_denialCause 7 1 6 [.ref x] σ (fun o s => o = .inr "java/util/NoSuchElementException" ∧ s = σ) := by
  refine zMet_of (ls := [some (.ref x)]) rfl (by decide +kernel) rfl (fun h => by cases h) hX (Nat.le_of_ble_eq_true rfl) rfl ?_
  obtain ⟨K, lf, xo, xA, xK, wK, xS, xH, xJ, xT, xL, lL⟩ := id hC
  obtain ⟨hj, jr, jk, jc, jo⟩ := id xJ
  obtain ⟨hC8, hP8, hW⟩ := id hA
  refine zr_aload_n dX9_denialCause_0 rfl ?_
  refine zr_callVv [] dX9_denialCause_1 vX9_362 (qX9_requireDenial hX hC hA hld) xo (by decide) (by decide) (by decide) rfl rfl (Nat.le_of_ble_eq_true rfl) (by decide) rfl (fun s_ h_ => ?_)
  rw [h_]; clear h_
  refine zr_aload_n dX9_denialCause_4 rfl ?_
  refine zr_getfield dX9_denialCause_5 fX9_77 xo rfl (by decide) ?_
  refine zr_if_ne (tgt := 22) dX9_denialCause_8 (by decide) (fun c_8 => absurd (hdc) c_8) (fun c_8 => ?_)
  exact zr_thrW dX9_denialCause_11 dX9_denialCause_14 dX9_denialCause_15 dX9_denialCause_18 dX9_denialCause_21 thX9_150_365 rfl (by decide) (by decide) (by decide) (by decide) (⟨rfl, zNN hN⟩)

set_option maxHeartbeats 400000 in
set_option maxRecDepth 100000 in
theorem qX9_denialX {X : zX} (hX : X.1.stackTraces = false) {σ : zS} {x : Nat} {A S : zDk} {m : Nat} {U : Nat → zDk} {n : Nat} {T : Nat → Int32} {ll : Nat} {ln : Nat → Int32} {hs kf ld dt dc : Int32} (hC : zKt x A S m U n T ll ln hs kf ld dt dc σ) (hA : zDw A) (hld : ld = 0) (hN : σ.2 = none) : zMet X mX9_denial yX9_denial 7 1 6 [.ref x] σ (fun o s => o = .inr "java/util/NoSuchElementException" ∧ s = σ) := by
  refine zMet_of (ls := [some (.ref x)]) rfl (by decide +kernel) rfl (fun h => by cases h) hX (Nat.le_of_ble_eq_true rfl) rfl ?_
  obtain ⟨K, lf, xo, xA, xK, wK, xS, xH, xJ, xT, xL, lL⟩ := id hC
  obtain ⟨hj, jr, jk, jc, jo⟩ := id xJ
  obtain ⟨hC8, hP8, hW⟩ := id hA
  refine zr_aload_n dX9_denial_0 rfl ?_
  exact zr_callV (rest := []) dX9_denial_1 vX9_362 (qX9_requireDenialX hX hC hA hld hN) (by decide) (by decide) (by decide) rfl rfl (Nat.le_of_ble_eq_true rfl) xo (by decide) rfl (fun v s h => by cases h.1) (fun E s h => h)

set_option maxHeartbeats 400000 in
set_option maxRecDepth 100000 in
theorem qX9_denialDetailX {X : zX} (hX : X.1.stackTraces = false) {σ : zS} {x : Nat} {A S : zDk} {m : Nat} {U : Nat → zDk} {n : Nat} {T : Nat → Int32} {ll : Nat} {ln : Nat → Int32} {hs kf ld dt dc : Int32} (hC : zKt x A S m U n T ll ln hs kf ld dt dc σ) (hA : zDw A) (hld : ld = 0) (hN : σ.2 = none) : zMet X mX9_denialDetail yX9_denialDetail 7 1 6 [.ref x] σ (fun o s => o = .inr "java/util/NoSuchElementException" ∧ s = σ) := by
  refine zMet_of (ls := [some (.ref x)]) rfl (by decide +kernel) rfl (fun h => by cases h) hX (Nat.le_of_ble_eq_true rfl) rfl ?_
  obtain ⟨K, lf, xo, xA, xK, wK, xS, xH, xJ, xT, xL, lL⟩ := id hC
  obtain ⟨hj, jr, jk, jc, jo⟩ := id xJ
  obtain ⟨hC8, hP8, hW⟩ := id hA
  refine zr_aload_n dX9_denialDetail_0 rfl ?_
  exact zr_callV (rest := []) dX9_denialDetail_1 vX9_362 (qX9_requireDenialX hX hC hA hld hN) (by decide) (by decide) (by decide) rfl rfl (Nat.le_of_ble_eq_true rfl) xo (by decide) rfl (fun v s h => by cases h.1) (fun E s h => h)

set_option maxHeartbeats 400000 in
set_option maxRecDepth 100000 in
theorem qX9_denialCauseX {X : zX} (hX : X.1.stackTraces = false) {σ : zS} {x : Nat} {A S : zDk} {m : Nat} {U : Nat → zDk} {n : Nat} {T : Nat → Int32} {ll : Nat} {ln : Nat → Int32} {hs kf ld dt dc : Int32} (hC : zKt x A S m U n T ll ln hs kf ld dt dc σ) (hA : zDw A) (hld : ld = 0) (hN : σ.2 = none) : zMet X mX9_denialCause yX9_denialCause 7 1 6 [.ref x] σ (fun o s => o = .inr "java/util/NoSuchElementException" ∧ s = σ) := by
  refine zMet_of (ls := [some (.ref x)]) rfl (by decide +kernel) rfl (fun h => by cases h) hX (Nat.le_of_ble_eq_true rfl) rfl ?_
  obtain ⟨K, lf, xo, xA, xK, wK, xS, xH, xJ, xT, xL, lL⟩ := id hC
  obtain ⟨hj, jr, jk, jc, jo⟩ := id xJ
  obtain ⟨hC8, hP8, hW⟩ := id hA
  refine zr_aload_n dX9_denialCause_0 rfl ?_
  exact zr_callV (rest := []) dX9_denialCause_1 vX9_362 (qX9_requireDenialX hX hC hA hld hN) (by decide) (by decide) (by decide) rfl rfl (Nat.le_of_ble_eq_true rfl) xo (by decide) rfl (fun v s h => by cases h.1) (fun E s h => h)

