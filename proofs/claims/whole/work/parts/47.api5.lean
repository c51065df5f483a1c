theorem zchr_vp (x : Int32) : vp_nar .char (zchr x) = zchr x := Value.int.inj (zchr_nar x)
set_option maxHeartbeats 400000 in
set_option maxRecDepth 100000 in
theorem qX9_writeCharacter {X : zX} (hX : X.1.stackTraces = false) {σ : zS} {x ll : Nat} {lf : Nat → Int32} {v0 v1 v2 v3 v4 v5 v6 v7 va vb vc vd ve : Value} {c : Int32} (h0 : σ.1 x = .inr (7, [v0, v1, v2, v3, v4, v5, v6, v7, .ref (x + 260), .int (nI ll), va, vb, vc, vd, ve])) (h1 : σ.1 (x + 260) = .inl (1, 400, .inl lf)) (hll : ll < 400) (hc : vp_nar .char c = c) : zMet X mX9_writeCharacter yX9_writeCharacter 0 0 0 [.ref x, .int c] σ (zV (fun s => zFr σ s (fun q => q = x ∨ q = x + 260) ∧ s.1 x = .inr (7, [v0, v1, v2, v3, v4, v5, v6, v7, .ref (x + 260), .int (nI (ll + 1)), va, vb, vc, vd, ve]) ∧ s.1 (x + 260) = .inl (1, 400, .inl (upd lf ll c)))) := by
  refine zMet_of (ls := [some (.ref x), some (.int c)]) rfl (by decide +kernel) rfl (fun h => by cases h) hX (Nat.le_of_ble_eq_true rfl) rfl ?_
  refine zr_aload_n dX9_writeCharacter_0 rfl ?_
  refine zr_getfield dX9_writeCharacter_1 fX9_60 h0 rfl (by decide) ?_
  refine zr_sipush (v := 400) dX9_writeCharacter_4 (by decide) ?_
  refine zr_icmp_ge (tgt := 30) dX9_writeCharacter_7 (by decide) (fun c_7 => absurd c_7 (fun h => absurd ((nI_leI (a := 400) (b := ll) (by omega) (by omega)).mp h) (by omega))) (fun c_7 => ?_)
  refine zr_aload_n dX9_writeCharacter_10 rfl ?_
  refine zr_getfield dX9_writeCharacter_11 fX9_56 h0 rfl (by decide) ?_
  refine zr_aload_n dX9_writeCharacter_14 rfl ?_
  refine zr_getfield dX9_writeCharacter_15 fX9_60 h0 rfl (by decide) ?_
  refine zr_iload_n dX9_writeCharacter_18 rfl ?_
  refine zr_castore dX9_writeCharacter_19 h1 (vp_in_nI (n := ll) (by omega) (by omega)) (hc) ?_
  rw [nI_clamp (n := ll) (by omega)]
  refine zr_sig (fun ks1 e_ks1 => ?_)
  have kh2 : ks1.1 x = .inr (7, [v0, v1, v2, v3, v4, v5, v6, v7, .ref ((x + 260)), .int (nI ll), va, vb, vc, vd, ve]) := by rw [e_ks1, zup_ne _ _ (by omega)]; exact h0
  have kh3 : ks1.1 (x + 260) = .inl (1, 400, .inl (upd lf ll c)) := by rw [e_ks1]; exact zup_at _ _ _
  have kF4 := zFr.put zFr.rf (P := (fun q => q = x ∨ q = x + 260)) e_ks1 (by first | omega | simp)
  refine zr_aload_n dX9_writeCharacter_20 rfl ?_
  refine zr_dup dX9_writeCharacter_21 rfl ?_
  refine zr_getfield dX9_writeCharacter_22 fX9_60 kh2 rfl (by decide) ?_
  refine zr_iconst (v := 1) dX9_writeCharacter_25 (by decide) ?_
  refine zr_iadd dX9_writeCharacter_26 ?_
  refine zr_eqi (x' := nI (ll + 1)) (nI_add ll 1) ?_
  refine zr_putfield (fs' := [v0, v1, v2, v3, v4, v5, v6, v7, .ref ((x + 260)), .int (nI (ll + 1)), va, vb, vc, vd, ve]) dX9_writeCharacter_27 pX9_60 kh2 (by decide) (rfl) (rfl) (Nat.le_of_ble_eq_true rfl) rfl ?_
  refine zr_sig (fun ks5 e_ks5 => ?_)
  have kh6 : ks5.1 x = .inr (7, [v0, v1, v2, v3, v4, v5, v6, v7, .ref ((x + 260)), .int (nI (ll + 1)), va, vb, vc, vd, ve]) := by rw [e_ks5]; exact zup_at _ _ _
  have kh7 : ks5.1 (x + 260) = .inl (1, 400, .inl (upd lf ll c)) := by rw [e_ks5, zup_ne _ _ (by omega)]; exact kh3
  have kF8 := zFr.put kF4 e_ks5 (by first | omega | simp)
  exact zr_return dX9_writeCharacter_30 rfl (⟨rfl, kF8, kh6, kh7⟩)

set_option maxHeartbeats 400000 in
set_option maxRecDepth 100000 in
theorem l_wl {X : zX} (hX : X.1.stackTraces = false) {σ : zS} {x m b N : Nat} {e lf : Nat → Int32} {v0 v1 v2 v3 v4 v5 v6 v7 va vb vc vd ve : Value} (h1 : σ.1 (x + 260) = .inl (1, 400, .inl lf)) (h2 : σ.1 b = .inl (0, N, .inl e)) (hbx : b ≠ x) (hbl : b ≠ x + 260) (hm : m ≤ 400) (hN : m ≤ N) (hN2 : N < 2 ^ 31) : ∀ (k i : Nat) (s : zS), i + k = m → (zFr σ s (fun q => q = x ∨ q = x + 260)) → (s.1 x = .inr (7, [v0, v1, v2, v3, v4, v5, v6, v7, .ref (x + 260), .int (nI i), va, vb, vc, vd, ve])) → (s.1 (x + 260) = .inl (1, 400, .inl (zcpy lf (fun t => zchr (e t)) i))) → zW X mX9_writeLetters 1 0 0 (zV (fun s => zFr σ s (fun q => q = x ∨ q = x + 260) ∧ s.1 x = .inr (7, [v0, v1, v2, v3, v4, v5, v6, v7, .ref (x + 260), .int (nI m), va, vb, vc, vd, ve]) ∧ s.1 (x + 260) = .inl (1, 400, .inl (zcpy lf (fun t => zchr (e t)) m)))) 7 [some (.ref x), some (.ref b), some (.int (nI m)), some (.int (nI i))] [] s := by
  intro k
  induction k with
  | zero =>
    intro i s hi hF h0 ha
    have hb := zFr.get hF (by omega) h2
    refine zr_iload_n dX9_writeLetters_7 rfl ?_
    refine zr_iload_n dX9_writeLetters_8 rfl ?_
    refine zr_icmp_ge (tgt := 28) dX9_writeLetters_9 (by decide) (fun c_9 => ?_) (fun c_9 => absurd ((nI_leI (a := m) (b := i) (by omega) (by omega)).mpr (by omega)) c_9)
    exact zr_return dX9_writeLetters_28 rfl (by have e1 : i = m := (by omega); subst e1; exact ⟨rfl, hF, h0, ha⟩)
  | succ k ih =>
    intro i s hi hF h0 ha
    have hb := zFr.get hF (by omega) h2
    refine zr_iload_n dX9_writeLetters_7 rfl ?_
    refine zr_iload_n dX9_writeLetters_8 rfl ?_
    refine zr_icmp_ge (tgt := 28) dX9_writeLetters_9 (by decide) (fun c_9 => absurd c_9 (fun h => absurd ((nI_leI (a := m) (b := i) (by omega) (by omega)).mp h) (by omega))) (fun c_9 => ?_)
    refine zr_aload_n dX9_writeLetters_12 rfl ?_
    refine zr_aload_n dX9_writeLetters_13 rfl ?_
    refine zr_iload_n dX9_writeLetters_14 rfl ?_
    refine zr_iaload dX9_writeLetters_15 hb (vp_in_nI (n := i) (by omega) (by omega)) ?_
    rw [nI_clamp (n := i) (by omega)]
    refine zr_pSi [.ref x] dX9_writeLetters_16 vX9_130 (qX9_characterOf hX s ((e i))) (by decide) (by decide) (by decide) rfl rfl (Nat.le_of_ble_eq_true rfl) rfl ?_
    refine zr_callVv [] dX9_writeLetters_19 vX9_347 (qX9_writeCharacter hX (c := (zchr (e i))) h0 ha (by omega) (zchr_vp _)) h0 (by decide) (by decide) (by decide) rfl rfl (Nat.le_of_ble_eq_true rfl) (by decide) rfl (fun s_kr1 h_kr1 => ?_)
    obtain ⟨F_kr1, g0_kr1, g1_kr1⟩ := h_kr1
    have kh2 : s_kr1.1 b = .inl (0, N, .inl e) := zFr.get F_kr1 (by omega) hb
    have kF3 := zFr.tr hF F_kr1 (by intro q hq; omega)
    refine zr_iinc (v := nI (i + 1)) (ls' := [some (.ref x), some (.ref b), some (.int (nI m)), some (.int (nI (i + 1)))]) dX9_writeLetters_22 rfl (nI_1 _) (by decide) rfl ?_
    refine zr_goto (tgt := 7) dX9_writeLetters_25 (by decide) ?_
    exact ih (i + 1) _ (by omega) (kF3) (g0_kr1) (by rw [← zcpy_s]; exact g1_kr1)

set_option maxHeartbeats 400000 in
set_option maxRecDepth 100000 in
theorem qX9_writeLetters {X : zX} (hX : X.1.stackTraces = false) {σ : zS} {x ll m b N : Nat} {e lf : Nat → Int32} {v0 v1 v2 v3 v4 v5 v6 v7 va vb vc vd ve : Value} (h0 : σ.1 x = .inr (7, [v0, v1, v2, v3, v4, v5, v6, v7, .ref (x + 260), .int (nI ll), va, vb, vc, vd, ve])) (h1 : σ.1 (x + 260) = .inl (1, 400, .inl lf)) (h2 : σ.1 b = .inl (0, N, .inl e)) (hbx : b ≠ x) (hbl : b ≠ x + 260) (hm : m ≤ 400) (hN : m ≤ N) (hN2 : N < 2 ^ 31) : zMet X mX9_writeLetters yX9_writeLetters 1 0 0 [.ref x, .ref b, .int (nI m)] σ (zV (fun s => zFr σ s (fun q => q = x ∨ q = x + 260) ∧ s.1 x = .inr (7, [v0, v1, v2, v3, v4, v5, v6, v7, .ref (x + 260), .int (nI m), va, vb, vc, vd, ve]) ∧ s.1 (x + 260) = .inl (1, 400, .inl (zcpy lf (fun t => zchr (e t)) m)))) := by
  refine zMet_of (ls := [some (.ref x), some (.ref b), some (.int (nI m)), none]) rfl (by decide +kernel) rfl (fun h => by cases h) hX (Nat.le_of_ble_eq_true rfl) rfl ?_
  refine zr_aload_n dX9_writeLetters_0 rfl ?_
  refine zr_iconst (v := 0) dX9_writeLetters_1 (by decide) ?_
  refine zr_putfield (fs' := [v0, v1, v2, v3, v4, v5, v6, v7, .ref ((x + 260)), .int 0, va, vb, vc, vd, ve]) dX9_writeLetters_2 pX9_60 h0 (by decide) (rfl) (rfl) (Nat.le_of_ble_eq_true rfl) rfl ?_
  refine zr_sig (fun ks1 e_ks1 => ?_)
  have kh2 : ks1.1 x = .inr (7, [v0, v1, v2, v3, v4, v5, v6, v7, .ref ((x + 260)), .int 0, va, vb, vc, vd, ve]) := by rw [e_ks1]; exact zup_at _ _ _
  have kh3 : ks1.1 (x + 260) = .inl (1, 400, .inl lf) := by rw [e_ks1, zup_ne _ _ (by omega)]; exact h1
  have kh4 : ks1.1 b = .inl (0, N, .inl e) := by rw [e_ks1, zup_ne _ _ (by omega)]; exact h2
  have kF5 := zFr.put zFr.rf (P := (fun q => q = x ∨ q = x + 260)) e_ks1 (by first | omega | simp)
  refine zr_iconst (v := 0) dX9_writeLetters_5 (by decide) ?_
  refine zr_istore_n (ls' := [some (.ref x), some (.ref b), some (.int (nI m)), some (.int 0)]) dX9_writeLetters_6 rfl (by decide) rfl ?_
  exact l_wl hX h1 h2 hbx hbl hm hN hN2 m 0 _ (by omega) kF5 kh2 (by rw [zcpy_0]; exact kh3)

def zmark (A : zDk) (i : Nat) : Int32 := if kR A i = -1 then 63 else if zvt A i = 0 then 102 else 116
theorem zmark_vp (A : zDk) (i : Nat) : vp_nar .char (zmark A i) = zmark A i := by unfold zmark; (repeat' split) <;> decide +kernel
/-- a case's line -/
def zln (A : zDk) (i : Nat) : Nat → Int32 := fun k => if k < kN A i then zchr (kL A i k) else if k = kN A i then 58 else zmark A i
set_option maxHeartbeats 400000 in
set_option maxRecDepth 100000 in
theorem qX9_markOf {X : zX} (hX : X.1.stackTraces = false) {σ : zS} {x : Nat} {A S : zDk} {m : Nat} {U : Nat → zDk} {n : Nat} {T : Nat → Int32} {ll : Nat} {ln : Nat → Int32} {hs kf ld dt dc : Int32} {i : Nat} (hC : zKt x A S m U n T ll ln hs kf ld dt dc σ) (hA : zDw A) (hi : i < kC A) : zMet X mX9_markOf yX9_markOf 2 0 0 [.ref x, .int (nI i)] σ (zI (fun y_ s_ => y_ = zmark A i ∧ s_ = σ)) := by
  refine zMet_of (ls := [some (.ref x), some (.int (nI i))]) rfl (by decide +kernel) rfl (fun h => by cases h) hX (Nat.le_of_ble_eq_true rfl) rfl ?_
  obtain ⟨K, lf, xo, xA, xK, wK, xS, xH, xJ, xT, xL, lL⟩ := id hC
  obtain ⟨hj, jr, jk, jc, jo⟩ := id xJ
  obtain ⟨hC8, hP8, hW⟩ := id hA
  refine zr_aload_n dX9_markOf_0 rfl ?_
  refine zr_getfield dX9_markOf_1 fX9_20 xo rfl (by decide) ?_
  refine zr_iload_n dX9_markOf_4 rfl ?_
  refine zr_pVi [] dX9_markOf_5 vX9_241 (qX3_hasVerdict hX (i := i) xA hA (by omega)) (zDA.obj xA) (by decide) (by decide) (by decide) rfl rfl (Nat.le_of_ble_eq_true rfl) (by decide) rfl ?_
  refine zr_if_ne (tgt := 14) dX9_markOf_8 (by decide) (fun c_8 => ?_) (fun c_8 => ?_)
  · refine zr_aload_n dX9_markOf_14 rfl ?_
    refine zr_getfield dX9_markOf_15 fX9_20 xo rfl (by decide) ?_
    refine zr_iload_n dX9_markOf_18 rfl ?_
    refine zr_pVi [] dX9_markOf_19 vX9_228 (qX3_hasVerdictTangled hX (i := i) xA hA (by omega)) (zDA.obj xA) (by decide) (by decide) (by decide) rfl rfl (Nat.le_of_ble_eq_true rfl) (by decide) rfl ?_
    refine zr_if_eq (tgt := 30) dX9_markOf_22 (by decide) (fun c_22 => ?_) (fun c_22 => ?_)
    · refine zr_bipush (v := 102) dX9_markOf_30 (by decide) ?_
      exact zr_ireturn dX9_markOf_32 rfl (rfl) (⟨_, rfl, by unfold zmark; rw [if_neg (fun q => c_8 (ite01.mpr q))]; rw [if_pos c_22], rfl⟩)
    · refine zr_bipush (v := 116) dX9_markOf_25 (by decide) ?_
      refine zr_goto (tgt := 32) dX9_markOf_27 (by decide) ?_
      exact zr_ireturn dX9_markOf_32 rfl (rfl) (⟨_, rfl, by unfold zmark; rw [if_neg (fun q => c_8 (ite01.mpr q))]; rw [if_neg c_22], rfl⟩)
  · refine zr_bipush (v := 63) dX9_markOf_11 (by decide) ?_
    exact zr_ireturn dX9_markOf_13 rfl (rfl) (⟨_, rfl, by unfold zmark; rw [if_pos (ite01.mp c_8)], rfl⟩)

set_option maxHeartbeats 400000 in
set_option maxRecDepth 100000 in
theorem qX9_writeCase {X : zX} (hX : X.1.stackTraces = false) {σ : zS} {x : Nat} {A S : zDk} {m : Nat} {U : Nat → zDk} {n : Nat} {T : Nat → Int32} {ll : Nat} {ln : Nat → Int32} {hs kf ld dt dc : Int32} {i : Nat} (hC : zKt x A S m U n T ll ln hs kf ld dt dc σ) (hA : zDw A) (hi : i < kC A) : zMet X mX9_writeCase yX9_writeCase 8 0 0 [.ref x, .int (nI i)] σ (zI (fun y_ s => y_ = nI (kN A i + 2) ∧ zFr σ s (zXr x) ∧ zKt x A S m U n T (kN A i + 2) (zln A i) hs kf ld dt dc s)) := by
  refine zMet_of (ls := [some (.ref x), some (.int (nI i)), none]) rfl (by decide +kernel) rfl (fun h => by cases h) hX (Nat.le_of_ble_eq_true rfl) rfl ?_
  obtain ⟨K, lf, xo, xA, xK, wK, xS, xH, xJ, xT, xL, lL⟩ := id hC
  obtain ⟨hj, jr, jk, jc, jo⟩ := id xJ
  obtain ⟨hC8, hP8, hW⟩ := id hA
  have h16 := (hW i (by omega)).1
  refine zr_aload_n dX9_writeCase_0 rfl ?_
  refine zr_iload_n dX9_writeCase_1 rfl ?_
  refine zr_callVv [] dX9_writeCase_2 vX9_94 (qX9_requireCase hX (i := i) hC hA (by omega)) xo (by decide) (by decide) (by decide) rfl rfl (Nat.le_of_ble_eq_true rfl) (by decide) rfl (fun s_ h_ => ?_)
  rw [h_]; clear h_
  refine zr_aload_n dX9_writeCase_5 rfl ?_
  refine zr_getfield dX9_writeCase_6 fX9_20 xo rfl (by decide) ?_
  obtain ⟨wr1, rr1, mr1, tr1, ar1, fr1, ca1, cb1, cc1, cd1, ce1, cf1, cw1⟩ := id xA
  refine zr_getfield dX9_writeCase_9 fX9_112 ca1 rfl (by decide) ?_
  refine zr_iload_n dX9_writeCase_12 rfl ?_
  refine zr_aaload6 (b := (x + 2 + 6 + 2 * i)) dX9_writeCase_13 cb1 (vp_in_nI (n := i) (by omega) (by omega)) (by rw [nI_clamp (by omega)]; exact (cw1 i (by omega)).1) ?_
  refine zr_astore_n (ls' := [some (.ref x), some (.int (nI i)), some (.ref ((x + 2 + 6 + 2 * i)))]) dX9_writeCase_14 rfl (by decide) rfl ?_
  refine zr_aload_n dX9_writeCase_15 rfl ?_
  refine zr_aload_n dX9_writeCase_16 rfl ?_
  obtain ⟨we2, wg2, wc2, wl2, wm2⟩ := cw1 i (by omega)
  refine zr_getfield dX9_writeCase_17 fX9_155 wc2 rfl (by decide) ?_
  refine zr_aload_n dX9_writeCase_20 rfl ?_
  refine zr_getfield dX9_writeCase_21 fX9_121 wc2 rfl (by decide) ?_
  have HWM := wm2
  refine zr_callVv [] dX9_writeCase_24 vX9_343 (qX9_writeLetters hX (m := kN A i) xo xL wl2 (by omega) (by omega) (by omega) (by omega) (by decide)) xo (by decide) (by decide) (by decide) rfl rfl (Nat.le_of_ble_eq_true rfl) (by decide) rfl (fun s_kr3 h_kr3 => ?_)
  obtain ⟨F_kr3, g0_kr3, g1_kr3⟩ := h_kr3
  have kh4 : s_kr3.1 (x + 1) = .inr (3, [.ref ((x + 2)), .ref ((x + 24)), .ref ((x + 27)), .ref ((x + 29))]) := zFr.get F_kr3 (by omega) hj
  have kR5 : zDA (x + 2) A s_kr3 := zDA.fr xA F_kr3 (by intro q h1 h2 h3; (try simp only [zIn, zJf] at h3); omega)
  have kR6 : zRx (x + 24) s_kr3 := zRx.fr jr F_kr3 (by intro q h1 h2 h3; (try simp only [zIn, zJf] at h3); omega)
  have kR7 : zCu (x + 253) s_kr3 := zCu.fr jk F_kr3 (by intro q h1 h2 h3; (try simp only [zIn, zJf] at h3); omega)
  have kR8 : zCu (x + 27) s_kr3 := zCu.fr jc F_kr3 (by intro q h1 h2 h3; (try simp only [zIn, zJf] at h3); omega)
  have kR9 : zCu (x + 29) s_kr3 := zCu.fr jo F_kr3 (by intro q h1 h2 h3; (try simp only [zIn, zJf] at h3); omega)
  have kR10 : zDA (x + 31) K s_kr3 := zDA.fr xK F_kr3 (by intro q h1 h2 h3; (try simp only [zIn, zJf] at h3); omega)
  have kR11 : zDA (x + 53) S s_kr3 := zDA.fr xS F_kr3 (by intro q h1 h2 h3; (try simp only [zIn, zJf] at h3); omega)
  have kR12 : zHi (x + 75) m U s_kr3 := zHi.fr xH F_kr3 (by intro q h1 h2 h3; (try simp only [zIn, zJf] at h3); omega)
  have kR13 : zSk (x + 255) n T s_kr3 := zSk.fr xT F_kr3 (by intro q h1 h2 h3; (try simp only [zIn, zJf] at h3); omega)
  have kF14 := zFr.tr zFr.rf (P := zXr x) F_kr3 (by intro q hq; (try simp only [zIn, zJf, zXr] at hq); unfold zXr; omega)
  refine zr_aload_n dX9_writeCase_27 rfl ?_
  refine zr_bipush (v := 58) dX9_writeCase_28 (by decide) ?_
  refine zr_callVv [] dX9_writeCase_30 vX9_347 (qX9_writeCharacter hX (c := 58) g0_kr3 g1_kr3 (by omega) (by decide +kernel)) g0_kr3 (by decide) (by decide) (by decide) rfl rfl (Nat.le_of_ble_eq_true rfl) (by decide) rfl (fun s_kr15 h_kr15 => ?_)
  obtain ⟨F_kr15, g0_kr15, g1_kr15⟩ := h_kr15
  have kh16 : s_kr15.1 (x + 1) = .inr (3, [.ref ((x + 2)), .ref ((x + 24)), .ref ((x + 27)), .ref ((x + 29))]) := zFr.get F_kr15 (by omega) kh4
  have kR17 : zDA (x + 2) A s_kr15 := zDA.fr kR5 F_kr15 (by intro q h1 h2 h3; (try simp only [zIn, zJf] at h3); omega)
  have kR18 : zRx (x + 24) s_kr15 := zRx.fr kR6 F_kr15 (by intro q h1 h2 h3; (try simp only [zIn, zJf] at h3); omega)
  have kR19 : zCu (x + 253) s_kr15 := zCu.fr kR7 F_kr15 (by intro q h1 h2 h3; (try simp only [zIn, zJf] at h3); omega)
  have kR20 : zCu (x + 27) s_kr15 := zCu.fr kR8 F_kr15 (by intro q h1 h2 h3; (try simp only [zIn, zJf] at h3); omega)
  have kR21 : zCu (x + 29) s_kr15 := zCu.fr kR9 F_kr15 (by intro q h1 h2 h3; (try simp only [zIn, zJf] at h3); omega)
  have kR22 : zDA (x + 31) K s_kr15 := zDA.fr kR10 F_kr15 (by intro q h1 h2 h3; (try simp only [zIn, zJf] at h3); omega)
  have kR23 : zDA (x + 53) S s_kr15 := zDA.fr kR11 F_kr15 (by intro q h1 h2 h3; (try simp only [zIn, zJf] at h3); omega)
  have kR24 : zHi (x + 75) m U s_kr15 := zHi.fr kR12 F_kr15 (by intro q h1 h2 h3; (try simp only [zIn, zJf] at h3); omega)
  have kR25 : zSk (x + 255) n T s_kr15 := zSk.fr kR13 F_kr15 (by intro q h1 h2 h3; (try simp only [zIn, zJf] at h3); omega)
  have kF26 := zFr.tr kF14 F_kr15 (by intro q hq; (try simp only [zIn, zJf, zXr] at hq); unfold zXr; omega)
  refine zr_aload_n dX9_writeCase_33 rfl ?_
  refine zr_aload_n dX9_writeCase_34 rfl ?_
  refine zr_iload_n dX9_writeCase_35 rfl ?_
  have kq27 : zKt x A S m U n T (kN A i + 1) (upd (zcpy lf (fun t => zchr ((fr1 i) t)) (kN A i)) (kN A i) 58) hs kf ld dt dc s_kr15 := ⟨_, _, g0_kr15, kR17, kR22, wK, kR23, kR24, ⟨kh16, kR18, kR19, kR20, kR21⟩, kR25, g1_kr15, (fun k hk => rfl)⟩
  refine zr_pVi [.ref x] dX9_writeCase_36 vX9_351 (qX9_markOf hX (i := i) kq27 hA (by omega)) g0_kr15 (by decide) (by decide) (by decide) rfl rfl (Nat.le_of_ble_eq_true rfl) (by decide) rfl ?_
  refine zr_callVv [] dX9_writeCase_39 vX9_347 (qX9_writeCharacter hX (c := (zmark A i)) g0_kr15 g1_kr15 (by omega) (zmark_vp _ _)) g0_kr15 (by decide) (by decide) (by decide) rfl rfl (Nat.le_of_ble_eq_true rfl) (by decide) rfl (fun s_kr28 h_kr28 => ?_)
  obtain ⟨F_kr28, g0_kr28, g1_kr28⟩ := h_kr28
  have kh29 : s_kr28.1 (x + 1) = .inr (3, [.ref ((x + 2)), .ref ((x + 24)), .ref ((x + 27)), .ref ((x + 29))]) := zFr.get F_kr28 (by omega) kh16
  have kR30 : zDA (x + 2) A s_kr28 := zDA.fr kR17 F_kr28 (by intro q h1 h2 h3; (try simp only [zIn, zJf] at h3); omega)
  have kR31 : zRx (x + 24) s_kr28 := zRx.fr kR18 F_kr28 (by intro q h1 h2 h3; (try simp only [zIn, zJf] at h3); omega)
  have kR32 : zCu (x + 253) s_kr28 := zCu.fr kR19 F_kr28 (by intro q h1 h2 h3; (try simp only [zIn, zJf] at h3); omega)
  have kR33 : zCu (x + 27) s_kr28 := zCu.fr kR20 F_kr28 (by intro q h1 h2 h3; (try simp only [zIn, zJf] at h3); omega)
  have kR34 : zCu (x + 29) s_kr28 := zCu.fr kR21 F_kr28 (by intro q h1 h2 h3; (try simp only [zIn, zJf] at h3); omega)
  have kR35 : zDA (x + 31) K s_kr28 := zDA.fr kR22 F_kr28 (by intro q h1 h2 h3; (try simp only [zIn, zJf] at h3); omega)
  have kR36 : zDA (x + 53) S s_kr28 := zDA.fr kR23 F_kr28 (by intro q h1 h2 h3; (try simp only [zIn, zJf] at h3); omega)
  have kR37 : zHi (x + 75) m U s_kr28 := zHi.fr kR24 F_kr28 (by intro q h1 h2 h3; (try simp only [zIn, zJf] at h3); omega)
  have kR38 : zSk (x + 255) n T s_kr28 := zSk.fr kR25 F_kr28 (by intro q h1 h2 h3; (try simp only [zIn, zJf] at h3); omega)
  have kF39 := zFr.tr kF26 F_kr28 (by intro q hq; (try simp only [zIn, zJf, zXr] at hq); unfold zXr; omega)
  refine zr_aload_n dX9_writeCase_42 rfl ?_
  refine zr_getfield dX9_writeCase_43 fX9_60 g0_kr28 rfl (by decide) ?_
  refine zr_ireturn dX9_writeCase_46 rfl (rfl) ?_
  have lLn : ∀ k, k < kN A i + 2 → (upd (upd (zcpy lf (fun t => zchr ((fr1 i) t)) (kN A i)) (kN A i) 58) (kN A i + 1) (zmark A i)) k = zln A i k := by
    intro k hk; unfold zln; simp only [upd, zcpy]
    by_cases k1 : k = kN A i + 1
    · rw [if_pos k1, if_neg (by omega), if_neg (by omega)]
    · rw [if_neg k1]; by_cases k2 : k = kN A i
      · rw [if_pos k2, if_neg (by omega), if_pos k2]
      · rw [if_neg k2, if_pos (by omega), if_pos (by omega)]; exact congrArg zchr (HWM k (by omega))
  exact ⟨_, rfl, rfl, kF39, ⟨_, _, g0_kr28, kR30, kR35, wK, kR36, kR37, ⟨kh29, kR31, kR32, kR33, kR34⟩, kR38, g1_kr28, lLn⟩⟩

set_option maxHeartbeats 400000 in
set_option maxRecDepth 100000 in
theorem qX9_writeCaseX {X : zX} (hX : X.1.stackTraces = false) {σ : zS} {x : Nat} {A S : zDk} {m : Nat} {U : Nat → zDk} {n : Nat} {T : Nat → Int32} {ll : Nat} {ln : Nat → Int32} {hs kf ld dt dc : Int32} {p : Int32} (hC : zKt x A S m U n T ll ln hs kf ld dt dc σ) (hA : zDw A) (hno : ¬ (¬ p < 0 ∧ p < nI (kC A))) (hN : σ.2 = none) : zMet X mX9_writeCase yX9_writeCase 7 1 6 [.ref x, .int p] σ (fun o s => o = .inr "java/lang/IndexOutOfBoundsException" ∧ s = σ) := by
  refine zMet_of (ls := [some (.ref x), some (.int p), none]) rfl (by decide +kernel) rfl (fun h => by cases h) hX (Nat.le_of_ble_eq_true rfl) rfl ?_
  obtain ⟨K, lf, xo, xA, xK, wK, xS, xH, xJ, xT, xL, lL⟩ := id hC
  obtain ⟨hj, jr, jk, jc, jo⟩ := id xJ
  obtain ⟨hC8, hP8, hW⟩ := id hA
  refine zr_aload_n dX9_writeCase_0 rfl ?_
  refine zr_iload_n dX9_writeCase_1 rfl ?_
  exact zr_callV (rest := []) dX9_writeCase_2 vX9_94 (qX9_requireCaseX hX (p := p) hC hA hno hN) (by decide) (by decide) (by decide) rfl rfl (Nat.le_of_ble_eq_true rfl) xo (by decide) rfl (fun v s h => by cases h.1) (fun E s h => h)

set_option maxHeartbeats 400000 in
set_option maxRecDepth 100000 in
theorem qX9_writeRelaxed {X : zX} (hX : X.1.stackTraces = false) {σ : zS} {x : Nat} {A S : zDk} {m : Nat} {U : Nat → zDk} {n : Nat} {T : Nat → Int32} {ll : Nat} {ln : Nat → Int32} {hs kf ld dt dc : Int32} {i : Nat} {q : Nat × List Int32} (hC : zKt x A S m U n T ll ln hs kf ld dt dc σ) (hA : zDw A) (hi : i < kC A) (hO : zRn 2000 [] (zWd A i) = some q) : zMet X mX9_writeRelaxed yX9_writeRelaxed 8 0 0 [.ref x, .int (nI i)] σ (zI (fun y_ s => y_ = nI q.2.length ∧ zFr σ s (zXr x) ∧ zKt x A S m U n T q.2.length (fun k => zchr (wv q.2 k)) hs kf ld dt dc s)) := by
  refine zMet_of (ls := [some (.ref x), some (.int (nI i))]) rfl (by decide +kernel) rfl (fun h => by cases h) hX (Nat.le_of_ble_eq_true rfl) rfl ?_
  obtain ⟨K, lf, xo, xA, xK, wK, xS, xH, xJ, xT, xL, lL⟩ := id hC
  obtain ⟨hj, jr, jk, jc, jo⟩ := id xJ
  obtain ⟨hC8, hP8, hW⟩ := id hA
  refine zr_aload_n dX9_writeRelaxed_0 rfl ?_
  refine zr_iload_n dX9_writeRelaxed_1 rfl ?_
  refine zr_callVv [] dX9_writeRelaxed_2 vX9_169 (qX9_requireRelaxed hX hC hA hi hO) xo (by decide) (by decide) (by decide) rfl rfl (Nat.le_of_ble_eq_true rfl) (by decide) rfl (fun skq1 hkq1 => ?_)
  obtain ⟨Fkq1, Ckq1, Okq1⟩ := hkq1
  have kF2 := zFr.tr zFr.rf (P := zXr x) Fkq1 (fun q hq => hq)
  obtain ⟨K3, lf3, xo3, xA3, xK3, wK3, xS3, xH3, xJ3, xT3, xL3, lL3⟩ := id Ckq1
  obtain ⟨hj3, jr3, jk3, jc3, jo3⟩ := id xJ3
  obtain ⟨rf4, rg4, rn4, rm4, rc4, rl4, qa4, qb4, qc4, qd4⟩ := id Okq1
  obtain ⟨qe, qW, qn, qr⟩ : rl4 = 0 ∧ zP rf4 rn4 = q.2 ∧ rn4 ≤ 400 ∧ rc4 + q.1 = 2000 := by rw [hO] at qd4; exact qd4
  obtain ⟨qL, qE⟩ := zP_wv qW
  refine zr_aload_n dX9_writeRelaxed_5 rfl ?_
  refine zr_aload_n dX9_writeRelaxed_6 rfl ?_
  refine zr_getfield dX9_writeRelaxed_7 fX9_25 xo3 rfl (by decide) ?_
  refine zr_getfield dX9_writeRelaxed_10 fX9_354 qa4 rfl (by decide) ?_
  refine zr_aload_n dX9_writeRelaxed_13 rfl ?_
  refine zr_getfield dX9_writeRelaxed_14 fX9_25 xo3 rfl (by decide) ?_
  refine zr_getfield dX9_writeRelaxed_17 fX9_172 qa4 rfl (by decide) ?_
  refine zr_callVv [] dX9_writeRelaxed_20 vX9_343 (qX9_writeLetters hX (m := rn4) xo3 xL3 qb4 (by omega) (by omega) (by omega) (by omega) (by decide)) xo3 (by decide) (by decide) (by decide) rfl rfl (Nat.le_of_ble_eq_true rfl) (by decide) rfl (fun s_kr5 h_kr5 => ?_)
  obtain ⟨F_kr5, g0_kr5, g1_kr5⟩ := h_kr5
  have kh6 : s_kr5.1 (x + 1) = .inr (3, [.ref ((x + 2)), .ref ((x + 24)), .ref ((x + 27)), .ref ((x + 29))]) := zFr.get F_kr5 (by omega) hj3
  have kh7 : s_kr5.1 (x + 24) = .inr (4, [.ref ((x + 24 + 1)), .ref ((x + 24 + 2)), .int (nI rn4), .int (nI rm4), .int (nI rc4), .int rl4]) := zFr.get F_kr5 (by omega) qa4
  have kh8 : s_kr5.1 (x + 24 + 1) = .inl (0, 400, .inl rf4) := zFr.get F_kr5 (by omega) qb4
  have kR9 : zDA (x + 2) A s_kr5 := zDA.fr xA3 F_kr5 (by intro q h1 h2 h3; (try simp only [zIn, zJf] at h3); omega)
  have kR10 : zDA (x + 31) K3 s_kr5 := zDA.fr xK3 F_kr5 (by intro q h1 h2 h3; (try simp only [zIn, zJf] at h3); omega)
  have kR11 : zDA (x + 53) S s_kr5 := zDA.fr xS3 F_kr5 (by intro q h1 h2 h3; (try simp only [zIn, zJf] at h3); omega)
  have kR12 : zHi (x + 75) m U s_kr5 := zHi.fr xH3 F_kr5 (by intro q h1 h2 h3; (try simp only [zIn, zJf] at h3); omega)
  have kR13 : zSk (x + 255) n T s_kr5 := zSk.fr xT3 F_kr5 (by intro q h1 h2 h3; (try simp only [zIn, zJf] at h3); omega)
  have kR14 : zRo (x + 24) (zRn 2000 [] (zWd A i)) s_kr5 := zRo.fr Okq1 F_kr5 (by intro q h1 h2 h3; (try simp only [zIn, zJf] at h3); omega)
  have kR15 : zCu (x + 253) s_kr5 := zCu.fr jk3 F_kr5 (by intro q h1 h2 h3; (try simp only [zIn, zJf] at h3); omega)
  have kR16 : zCu (x + 27) s_kr5 := zCu.fr jc3 F_kr5 (by intro q h1 h2 h3; (try simp only [zIn, zJf] at h3); omega)
  have kR17 : zCu (x + 29) s_kr5 := zCu.fr jo3 F_kr5 (by intro q h1 h2 h3; (try simp only [zIn, zJf] at h3); omega)
  have kF18 := zFr.tr kF2 F_kr5 (by intro q hq; (try simp only [zIn, zJf, zXr] at hq); unfold zXr; omega)
  refine zr_aload_n dX9_writeRelaxed_23 rfl ?_
  refine zr_getfield dX9_writeRelaxed_24 fX9_60 g0_kr5 rfl (by decide) ?_
  refine zr_ireturn dX9_writeRelaxed_27 rfl (rfl) ?_
  have lLn : ∀ k, k < q.2.length → (zcpy lf3 (fun t => zchr (rf4 t)) rn4) k = zchr (wv q.2 k) := by
    intro k hk; simp only [zcpy]; rw [if_pos (by omega)]; exact congrArg zchr (qE k (by omega))
  rw [qL] at lLn ⊢
  exact ⟨_, rfl, rfl, kF18, ⟨_, _, g0_kr5, kR9, kR10, wK3, kR11, kR12, ⟨kh6, (zRo.rx kR14), kR15, kR16, kR17⟩, kR13, g1_kr5, lLn⟩⟩

set_option maxHeartbeats 400000 in
set_option maxRecDepth 100000 in
theorem qX9_writeRelaxedN {X : zX} (hX : X.1.stackTraces = false) {σ : zS} {x : Nat} {A S : zDk} {m : Nat} {U : Nat → zDk} {n : Nat} {T : Nat → Int32} {ll : Nat} {ln : Nat → Int32} {hs kf ld dt dc : Int32} {i : Nat} (hC : zKt x A S m U n T ll ln hs kf ld dt dc σ) (hA : zDw A) (hi : i < kC A) (hO : zRn 2000 [] (zWd A i) = none) (hN : σ.2 = none) : zMet X mX9_writeRelaxed yX9_writeRelaxed 8 1 6 [.ref x, .int (nI i)] σ (fun o s => o = .inr "java/lang/IllegalStateException" ∧ zFr σ s (zXr x) ∧ zKt x A S m U n T ll ln hs kf ld dt dc s) := by
  refine zMet_of (ls := [some (.ref x), some (.int (nI i))]) rfl (by decide +kernel) rfl (fun h => by cases h) hX (Nat.le_of_ble_eq_true rfl) rfl ?_
  obtain ⟨K, lf, xo, xA, xK, wK, xS, xH, xJ, xT, xL, lL⟩ := id hC
  obtain ⟨hj, jr, jk, jc, jo⟩ := id xJ
  obtain ⟨hC8, hP8, hW⟩ := id hA
  refine zr_aload_n dX9_writeRelaxed_0 rfl ?_
  refine zr_iload_n dX9_writeRelaxed_1 rfl ?_
  exact zr_callV (rest := []) dX9_writeRelaxed_2 vX9_169 (qX9_requireRelaxedN hX hC hA hi hO hN) (by decide) (by decide) (by decide) rfl rfl (Nat.le_of_ble_eq_true rfl) xo (by decide) rfl (fun v s h => by cases h.1) (fun E s h => h)

set_option maxHeartbeats 400000 in
set_option maxRecDepth 100000 in
theorem qX9_writeRelaxedX {X : zX} (hX : X.1.stackTraces = false) {σ : zS} {x : Nat} {A S : zDk} {m : Nat} {U : Nat → zDk} {n : Nat} {T : Nat → Int32} {ll : Nat} {ln : Nat → Int32} {hs kf ld dt dc : Int32} {p : Int32} (hC : zKt x A S m U n T ll ln hs kf ld dt dc σ) (hA : zDw A) (hno : ¬ (¬ p < 0 ∧ p < nI (kC A))) (hN : σ.2 = none) : zMet X mX9_writeRelaxed yX9_writeRelaxed 8 1 6 [.ref x, .int p] σ (fun o s => o = .inr "java/lang/IndexOutOfBoundsException" ∧ s = σ) := by
  refine zMet_of (ls := [some (.ref x), some (.int p)]) rfl (by decide +kernel) rfl (fun h => by cases h) hX (Nat.le_of_ble_eq_true rfl) rfl ?_
  obtain ⟨K, lf, xo, xA, xK, wK, xS, xH, xJ, xT, xL, lL⟩ := id hC
  obtain ⟨hj, jr, jk, jc, jo⟩ := id xJ
  obtain ⟨hC8, hP8, hW⟩ := id hA
  refine zr_aload_n dX9_writeRelaxed_0 rfl ?_
  refine zr_iload_n dX9_writeRelaxed_1 rfl ?_
  exact zr_callV (rest := []) dX9_writeRelaxed_2 vX9_169 (qX9_requireRelaxedX hX (p := p) hC hA hno hN) (by decide) (by decide) (by decide) rfl rfl (Nat.le_of_ble_eq_true rfl) xo (by decide) rfl (fun v s h => by cases h.1) (fun E s h => h)

