set_option maxHeartbeats 400000 in
set_option maxRecDepth 100000 in
theorem qX5_replaceByRelaxed {X : zX} (hX : X.1.stackTraces = false) {σ : zS} {x : Nat} {A : zDk} {k q : Nat} {W : List Int32} (hJ : zJd x σ) (h : zDA (x + 2) A σ) (hA : zDw A) (hk : k < 8) (hO : zRn 2000 [] (zWd A k) = some (q, W)) (hL : W.length ≤ 16) : zMet X mX5_replaceByRelaxed yX5_replaceByRelaxed 5 0 0 [.ref ((x + 1)), .int (nI k)] σ (zI (fun y_ s => y_ = nI (2000 - q) ∧ zFr σ s (fun q => zIn (x + 2) q ∨ zJf x q) ∧ zJd x s ∧ zDA (x + 2) (aWord A k W.length (wv W)) s)) := by
  refine zMet_of (ls := [some (.ref ((x + 1))), some (.int (nI k))]) rfl (by decide +kernel) rfl (fun h => by cases h) hX (Nat.le_of_ble_eq_true rfl) rfl ?_
  obtain ⟨hj, jr, jk, jc, jo⟩ := id hJ
  obtain ⟨hC8, hP8, hW⟩ := id hA
  refine zr_aload_n dX5_replaceByRelaxed_0 rfl ?_
  refine zr_getfield dX5_replaceByRelaxed_1 fX5_21 hj rfl (by decide) ?_
  refine zr_aload_n dX5_replaceByRelaxed_4 rfl ?_
  refine zr_getfield dX5_replaceByRelaxed_5 fX5_12 hj rfl (by decide) ?_
  obtain ⟨wr1, rr1, mr1, tr1, ar1, fr1, ca1, cb1, cc1, cd1, ce1, cf1, cw1⟩ := id h
  refine zr_getfield dX5_replaceByRelaxed_8 fX5_59 ca1 rfl (by decide) ?_
  refine zr_iload_n dX5_replaceByRelaxed_11 rfl ?_
  refine zr_aaload6 (b := (x + 2 + 6 + 2 * k)) dX5_replaceByRelaxed_12 cb1 (vp_in_nI (n := k) (by omega) (by omega)) (by rw [nI_clamp (by omega)]; exact (cw1 k (by omega)).1) ?_
  refine zr_callVv [] dX5_replaceByRelaxed_13 vX5_80 (qR_relaxWord hX (i := k) jr h hA (by omega) (by omega)) (zRx.obj jr).choose_spec (by decide) (by decide) (by decide) rfl rfl (Nat.le_of_ble_eq_true rfl) (by decide) rfl (fun s_kr2 h_kr2 => ?_)
  obtain ⟨F_kr2, r0_kr2⟩ := h_kr2
  have kh3 : s_kr2.1 (x + 1) = .inr (3, [.ref ((x + 2)), .ref ((x + 24)), .ref ((x + 27)), .ref ((x + 29))]) := zFr.get F_kr2 (by omega) hj
  have kR4 : zDA (x + 2) A s_kr2 := zDA.fr h F_kr2 (by intro q h1 h2 h3; (try simp only [zIn, zJf] at h3); omega)
  have kR5 : zCu (x + 253) s_kr2 := zCu.fr jk F_kr2 (by intro q h1 h2 h3; (try simp only [zIn, zJf] at h3); omega)
  have kR6 : zCu (x + 27) s_kr2 := zCu.fr jc F_kr2 (by intro q h1 h2 h3; (try simp only [zIn, zJf] at h3); omega)
  have kR7 : zCu (x + 29) s_kr2 := zCu.fr jo F_kr2 (by intro q h1 h2 h3; (try simp only [zIn, zJf] at h3); omega)
  have kF8 := zFr.tr zFr.rf (P := (fun q => zIn (x + 2) q ∨ zJf x q)) F_kr2 (by intro q hq; (try simp only [zIn] at hq); (first | exact Or.inr (by unfold zJf; omega) | exact Or.inr hq | (rcases hq with hq | hq; exact Or.inl hq; exact Or.inr hq) | exact Or.inl (by unfold zIn; omega)))
  obtain ⟨rf9, rg9, rn9, rm9, rc9, rl9, qa9, qb9, qc9, qd9⟩ := id r0_kr2
  obtain ⟨qe, qW, qn, qr⟩ : rl9 = 0 ∧ zP rf9 rn9 = W ∧ rn9 ≤ 400 ∧ rc9 + q = 2000 := by rw [hO] at qd9; exact qd9
  rw [qe] at qa9
  obtain ⟨qL, qE⟩ := zP_wv qW
  refine zr_aload_n dX5_replaceByRelaxed_16 rfl ?_
  refine zr_getfield dX5_replaceByRelaxed_17 fX5_12 kh3 rfl (by decide) ?_
  obtain ⟨wr10, rr10, mr10, tr10, ar10, fr10, ca10, cb10, cc10, cd10, ce10, cf10, cw10⟩ := id kR4
  refine zr_getfield dX5_replaceByRelaxed_20 fX5_59 ca10 rfl (by decide) ?_
  refine zr_iload_n dX5_replaceByRelaxed_23 rfl ?_
  refine zr_aaload6 (b := (x + 2 + 6 + 2 * k)) dX5_replaceByRelaxed_24 cb10 (vp_in_nI (n := k) (by omega) (by omega)) (by rw [nI_clamp (by omega)]; exact (cw10 k (by omega)).1) ?_
  refine zr_aload_n dX5_replaceByRelaxed_25 rfl ?_
  refine zr_getfield dX5_replaceByRelaxed_26 fX5_21 kh3 rfl (by decide) ?_
  refine zr_getfield dX5_replaceByRelaxed_29 fX5_120 qa9 rfl (by decide) ?_
  refine zr_aload_n dX5_replaceByRelaxed_32 rfl ?_
  refine zr_getfield dX5_replaceByRelaxed_33 fX5_21 kh3 rfl (by decide) ?_
  refine zr_getfield dX5_replaceByRelaxed_36 fX5_88 qa9 rfl (by decide) ?_
  refine zr_callVv [] dX5_replaceByRelaxed_39 vX5_123 (qW_copyRow hX (i := k) (g := rf9) (m' := rn9) (N := 400) kR4 (by omega) qb9 (by omega) (by omega) (by omega) (by omega)) (zDA.wobj kR4 (by omega)) (by decide) (by decide) (by decide) rfl rfl (Nat.le_of_ble_eq_true rfl) (by decide) rfl (fun s_kr11 h_kr11 => ?_)
  obtain ⟨F_kr11, r0_kr11⟩ := h_kr11
  have kh12 : s_kr11.1 (x + 1) = .inr (3, [.ref ((x + 2)), .ref ((x + 24)), .ref ((x + 27)), .ref ((x + 29))]) := zFr.get F_kr11 (by (try simp only [zIn]); omega) kh3
  have kh13 : s_kr11.1 (x + 24) = .inr (4, [.ref ((x + 24 + 1)), .ref ((x + 24 + 2)), .int (nI rn9), .int (nI rm9), .int (nI rc9), .int 0]) := zFr.get F_kr11 (by (try simp only [zIn]); omega) qa9
  have kh14 : s_kr11.1 (x + 24 + 1) = .inl (0, 400, .inl rf9) := zFr.get F_kr11 (by (try simp only [zIn]); omega) qb9
  have kh15 : s_kr11.1 (x + 24 + 2) = .inl (0, 400, .inl rg9) := zFr.get F_kr11 (by (try simp only [zIn]); omega) qc9
  have kR16 : zRo (x + 24) (zRn 2000 [] (zWd A k)) s_kr11 := zRo.fr r0_kr2 F_kr11 (by intro q h1 h2 h3; (try simp only [zIn, zJf] at h3); omega)
  have kR17 : zCu (x + 253) s_kr11 := zCu.fr kR5 F_kr11 (by intro q h1 h2 h3; (try simp only [zIn, zJf] at h3); omega)
  have kR18 : zCu (x + 27) s_kr11 := zCu.fr kR6 F_kr11 (by intro q h1 h2 h3; (try simp only [zIn, zJf] at h3); omega)
  have kR19 : zCu (x + 29) s_kr11 := zCu.fr kR7 F_kr11 (by intro q h1 h2 h3; (try simp only [zIn, zJf] at h3); omega)
  have kF20 := zFr.tr kF8 F_kr11 (by intro q hq; (try simp only [zIn] at hq); (first | exact Or.inr (by unfold zJf; omega) | exact Or.inr hq | (rcases hq with hq | hq; exact Or.inl hq; exact Or.inr hq) | exact Or.inl (by unfold zIn; omega)))
  refine zr_aload_n dX5_replaceByRelaxed_42 rfl ?_
  refine zr_getfield dX5_replaceByRelaxed_43 fX5_21 kh12 rfl (by decide) ?_
  refine zr_getfield dX5_replaceByRelaxed_46 fX5_127 kh13 rfl (by decide) ?_
  exact zr_ireturn dX5_replaceByRelaxed_49 rfl (rfl) (⟨_, rfl, congrArg nI (by omega), kF20, ⟨kh12, (zRo.rx kR16), kR17, kR18, kR19⟩, by have z := zDA.wcg r0_kr11 qE; rw [← qL] at z; exact z⟩)

set_option maxHeartbeats 400000 in
set_option maxRecDepth 100000 in
theorem l_pf {X : zX} (hX : X.1.stackTraces = false) {σ : zS} {x k : Nat} {A : zDk} (h : zDA (x + 2) A σ) (hA : zDw A) (hk : k < 8) : ∀ (j i : Nat) (s : zS), i + j = (kP A) → (zFr σ s (zJf x)) → (zJd x s) → (zCo (x + 27) (zcv z0 (zWd A k)) s) → (zPf A k = zPfi A k i j) → zW X mX5_precedentFor 4 0 0 (zI (fun y_ s => y_ = zPf A k ∧ zFr σ s (zJf x) ∧ zJd x s)) 18 [some (.ref ((x + 1))), some (.int (nI k)), some (.int (nI i))] [] s := by
  intro j
  induction j with
  | zero =>
    intro i s hi hF hJs hcv hz
    obtain ⟨hj, jr, jk, jc, jo⟩ := id hJs
    obtain ⟨hC8, hP8, hW⟩ := id hA
    have h2 := zDA.fr h hF (by intro q a b c; unfold zJf at c; omega)
    refine zr_iload_n dX5_precedentFor_18 rfl ?_
    refine zr_aload_n dX5_precedentFor_19 rfl ?_
    refine zr_getfield dX5_precedentFor_20 fX5_12 hj rfl (by decide) ?_
    obtain ⟨wr1, rr1, mr1, tr1, ar1, fr1, ca1, cb1, cc1, cd1, ce1, cf1, cw1⟩ := id h2
    refine zr_getfield dX5_precedentFor_23 fX5_162 ca1 rfl (by decide) ?_
    refine zr_icmp_ge (tgt := 75) dX5_precedentFor_26 (by decide) (fun c_26 => ?_) (fun c_26 => absurd ((nI_leI (a := kP A) (b := i) (by omega) (by omega)).mpr (by omega)) c_26)
    refine zr_iconst (v := -1) dX5_precedentFor_75 (by decide) ?_
    exact zr_ireturn dX5_precedentFor_76 rfl (rfl) (⟨_, rfl, hz.symm, hF, ⟨hj, jr, jk, (zCo.cu hcv), jo⟩⟩)
  | succ j ih =>
    intro i s hi hF hJs hcv hz
    obtain ⟨hj, jr, jk, jc, jo⟩ := id hJs
    obtain ⟨hC8, hP8, hW⟩ := id hA
    have h2 := zDA.fr h hF (by intro q a b c; unfold zJf at c; omega)
    obtain ⟨hm8, em⟩ := hA.mk (i := i) (by omega)
    refine zr_iload_n dX5_precedentFor_18 rfl ?_
    refine zr_aload_n dX5_precedentFor_19 rfl ?_
    refine zr_getfield dX5_precedentFor_20 fX5_12 hj rfl (by decide) ?_
    obtain ⟨wr1, rr1, mr1, tr1, ar1, fr1, ca1, cb1, cc1, cd1, ce1, cf1, cw1⟩ := id h2
    refine zr_getfield dX5_precedentFor_23 fX5_162 ca1 rfl (by decide) ?_
    refine zr_icmp_ge (tgt := 75) dX5_precedentFor_26 (by decide) (fun c_26 => absurd c_26 (fun h => absurd ((nI_leI (a := kP A) (b := i) (by omega) (by omega)).mp h) (by omega))) (fun c_26 => ?_)
    refine zr_aload_n dX5_precedentFor_29 rfl ?_
    refine zr_getfield dX5_precedentFor_30 fX5_32 hj rfl (by decide) ?_
    refine zr_aload_n dX5_precedentFor_33 rfl ?_
    refine zr_getfield dX5_precedentFor_34 fX5_12 hj rfl (by decide) ?_
    refine zr_getfield dX5_precedentFor_37 fX5_59 ca1 rfl (by decide) ?_
    refine zr_aload_n dX5_precedentFor_40 rfl ?_
    refine zr_getfield dX5_precedentFor_41 fX5_12 hj rfl (by decide) ?_
    refine zr_getfield dX5_precedentFor_44 fX5_147 ca1 rfl (by decide) ?_
    refine zr_iload_n dX5_precedentFor_47 rfl ?_
    refine zr_iaload dX5_precedentFor_48 cd1 (vp_in_nI (n := i) (by omega) (by omega)) ?_
    rw [nI_clamp (n := i) (by omega)]
    refine zr_eqi (x' := (kM A i)) (cw1 i (by omega)).2.1.2.1 ?_
    refine zr_eqi (x' := nI (zmk A i)) (em) ?_
    refine zr_aaload6 (b := (x + 2 + 6 + 2 * (zmk A i))) dX5_precedentFor_49 cb1 (vp_in_nI (n := (zmk A i)) (by omega) (by omega)) (by rw [nI_clamp (by omega)]; exact (cw1 (zmk A i) (by omega)).1) ?_
    refine zr_callVv [] dX5_precedentFor_50 vX5_150 (qC_drawWord hX (i := (zmk A i)) jo h2 hA (by omega) (by omega) (zDw.bw hA (by omega))) (zCu.obj jo) (by decide) (by decide) (by decide) rfl rfl (Nat.le_of_ble_eq_true rfl) (by decide) rfl (fun s_kr2 h_kr2 => ?_)
    obtain ⟨F_kr2, r0_kr2⟩ := h_kr2
    have kh3 : s_kr2.1 (x + 1) = .inr (3, [.ref ((x + 2)), .ref ((x + 24)), .ref ((x + 27)), .ref ((x + 29))]) := zFr.get F_kr2 (by omega) hj
    have kR4 : zDA (x + 2) A s_kr2 := zDA.fr h2 F_kr2 (by intro q h1 h2 h3; (try simp only [zIn, zJf] at h3); omega)
    have kR5 : zRx (x + 24) s_kr2 := zRx.fr jr F_kr2 (by intro q h1 h2 h3; (try simp only [zIn, zJf] at h3); omega)
    have kR6 : zCu (x + 253) s_kr2 := zCu.fr jk F_kr2 (by intro q h1 h2 h3; (try simp only [zIn, zJf] at h3); omega)
    have kR7 : zCo (x + 27) (zcv z0 (zWd A k)) s_kr2 := zCo.fr hcv F_kr2 (by intro q h1 h2 h3; (try simp only [zIn, zJf] at h3); omega)
    have kF8 := zFr.tr hF F_kr2 (by intro q hq; (try simp only [zIn, zJf] at hq); unfold zJf; omega)
    refine zr_aload_n dX5_precedentFor_53 rfl ?_
    refine zr_getfield dX5_precedentFor_54 fX5_28 kh3 rfl (by decide) ?_
    refine zr_aload_n dX5_precedentFor_57 rfl ?_
    refine zr_getfield dX5_precedentFor_58 fX5_32 kh3 rfl (by decide) ?_
    refine zr_pVi [] dX5_precedentFor_61 vX5_165 (qC_isSameAs hX kR7 r0_kr2 (hA.b1 (by omega)) (hA.b1 (by omega))) (zCo.obj kR7) (by decide) (by decide) (by decide) rfl rfl (Nat.le_of_ble_eq_true rfl) (by decide) rfl ?_
    refine zr_eqi (x' := (if zSmb (zcw A k) (zcw A (zmk A i)) = true then 1 else 0)) (rfl) ?_
    refine zr_if_eq (tgt := 69) dX5_precedentFor_64 (by decide) (fun c_64 => ?_) (fun c_64 => ?_)
    · refine zr_iinc (v := nI (i + 1)) (ls' := [some (.ref ((x + 1))), some (.int (nI k)), some (.int (nI (i + 1)))]) dX5_precedentFor_69 rfl (nI_1 _) (by decide) rfl ?_
      refine zr_goto (tgt := 18) dX5_precedentFor_72 (by decide) ?_
      exact ih (i + 1) _ (by omega) (kF8) (⟨kh3, kR5, kR6, (zCo.cu kR7), (zCo.cu r0_kr2)⟩) (kR7) (by rw [hz]; simp only [zPfi]; rw [if_neg (ite10.mp c_64)])
    · refine zr_iload_n dX5_precedentFor_67 rfl ?_
      exact zr_ireturn dX5_precedentFor_68 rfl (rfl) (⟨_, rfl, by rw [hz]; simp only [zPfi]; rw [if_pos (Classical.not_not.mp (fun q => c_64 (if_neg q)))], kF8, ⟨kh3, kR5, kR6, (zCo.cu kR7), (zCo.cu r0_kr2)⟩⟩)

set_option maxHeartbeats 400000 in
set_option maxRecDepth 100000 in
theorem qX5_precedentFor {X : zX} (hX : X.1.stackTraces = false) {σ : zS} {x : Nat} {A : zDk} {k : Nat} (hJ : zJd x σ) (h : zDA (x + 2) A σ) (hA : zDw A) (hk : k < 8) : zMet X mX5_precedentFor yX5_precedentFor 4 0 0 [.ref ((x + 1)), .int (nI k)] σ (zI (fun y_ s => y_ = zPf A k ∧ zFr σ s (zJf x) ∧ zJd x s)) := by
  refine zMet_of (ls := [some (.ref ((x + 1))), some (.int (nI k)), none]) rfl (by decide +kernel) rfl (fun h => by cases h) hX (Nat.le_of_ble_eq_true rfl) rfl ?_
  obtain ⟨hj, jr, jk, jc, jo⟩ := id hJ
  obtain ⟨hC8, hP8, hW⟩ := id hA
  refine zr_aload_n dX5_precedentFor_0 rfl ?_
  refine zr_getfield dX5_precedentFor_1 fX5_28 hj rfl (by decide) ?_
  refine zr_aload_n dX5_precedentFor_4 rfl ?_
  refine zr_getfield dX5_precedentFor_5 fX5_12 hj rfl (by decide) ?_
  obtain ⟨wr1, rr1, mr1, tr1, ar1, fr1, ca1, cb1, cc1, cd1, ce1, cf1, cw1⟩ := id h
  refine zr_getfield dX5_precedentFor_8 fX5_59 ca1 rfl (by decide) ?_
  refine zr_iload_n dX5_precedentFor_11 rfl ?_
  refine zr_aaload6 (b := (x + 2 + 6 + 2 * k)) dX5_precedentFor_12 cb1 (vp_in_nI (n := k) (by omega) (by omega)) (by rw [nI_clamp (by omega)]; exact (cw1 k (by omega)).1) ?_
  refine zr_callVv [] dX5_precedentFor_13 vX5_150 (qC_drawWord hX (i := k) jc h hA (by omega) (by omega) (zDw.bw hA (by omega))) (zCu.obj jc) (by decide) (by decide) (by decide) rfl rfl (Nat.le_of_ble_eq_true rfl) (by decide) rfl (fun s_kr2 h_kr2 => ?_)
  obtain ⟨F_kr2, r0_kr2⟩ := h_kr2
  have kh3 : s_kr2.1 (x + 1) = .inr (3, [.ref ((x + 2)), .ref ((x + 24)), .ref ((x + 27)), .ref ((x + 29))]) := zFr.get F_kr2 (by omega) hj
  have kR4 : zDA (x + 2) A s_kr2 := zDA.fr h F_kr2 (by intro q h1 h2 h3; (try simp only [zIn, zJf] at h3); omega)
  have kR5 : zRx (x + 24) s_kr2 := zRx.fr jr F_kr2 (by intro q h1 h2 h3; (try simp only [zIn, zJf] at h3); omega)
  have kR6 : zCu (x + 253) s_kr2 := zCu.fr jk F_kr2 (by intro q h1 h2 h3; (try simp only [zIn, zJf] at h3); omega)
  have kR7 : zCu (x + 29) s_kr2 := zCu.fr jo F_kr2 (by intro q h1 h2 h3; (try simp only [zIn, zJf] at h3); omega)
  have kF8 := zFr.tr zFr.rf (P := zJf x) F_kr2 (by intro q hq; (try simp only [zIn, zJf] at hq); unfold zJf; omega)
  refine zr_iconst (v := 0) dX5_precedentFor_16 (by decide) ?_
  refine zr_istore_n (ls' := [some (.ref ((x + 1))), some (.int (nI k)), some (.int 0)]) dX5_precedentFor_17 rfl (by decide) rfl ?_
  exact l_pf hX h hA hk (kP A) 0 _ (by omega) kF8 ⟨kh3, kR5, kR6, (zCo.cu r0_kr2), kR7⟩ r0_kr2 rfl

set_option maxHeartbeats 400000 in
set_option maxRecDepth 100000 in
theorem qX5_giveVerdict {X : zX} (hX : X.1.stackTraces = false) {σ : zS} {x : Nat} {A : zDk} {k : Nat} (hJ : zJd x σ) (h : zDA (x + 2) A σ) (hA : zDw A) (hk : k < 8) (hP7 : kP A < 8) : zMet X mX5_giveVerdict yX5_giveVerdict 5 0 0 [.ref ((x + 1)), .int (nI k)] σ (zV (fun s => zFr σ s (fun q => zIn (x + 2) q ∨ zJf x q) ∧ zJd x s ∧ zDA (x + 2) (aVer A k) s)) := by
  refine zMet_of (ls := [some (.ref ((x + 1))), some (.int (nI k)), none]) rfl (by decide +kernel) rfl (fun h => by cases h) hX (Nat.le_of_ble_eq_true rfl) rfl ?_
  obtain ⟨hj, jr, jk, jc, jo⟩ := id hJ
  obtain ⟨hC8, hP8, hW⟩ := id hA
  refine zr_aload_n dX5_giveVerdict_0 rfl ?_
  refine zr_iload_n dX5_giveVerdict_1 rfl ?_
  have kJ1 : zJd x σ := ⟨hj, jr, jk, jc, jo⟩
  refine zr_callVi [] dX5_giveVerdict_2 vX5_130 (qX5_precedentFor hX (k := k) kJ1 h hA (by omega)) (zJd.obj kJ1) (by decide) (by decide) (by decide) rfl rfl (Nat.le_of_ble_eq_true rfl) (by decide) rfl (fun kr2 s_kr2 h_kr2 => ?_)
  obtain ⟨e_kr2, F_kr2, r0_kr2⟩ := h_kr2
  have kR3 : zDA (x + 2) A s_kr2 := zDA.fr h F_kr2 (by intro q h1 h2 h3; (try simp only [zIn, zJf] at h3); omega)
  have kF4 := zFr.tr zFr.rf (P := (fun q => zIn (x + 2) q ∨ zJf x q)) F_kr2 (by intro q hq; (try simp only [zIn] at hq); (first | exact Or.inr (by unfold zJf; omega) | exact Or.inr hq | (rcases hq with hq | hq; exact Or.inl hq; exact Or.inr hq) | exact Or.inl (by unfold zIn; omega)))
  obtain rfl := e_kr2.symm
  obtain ⟨hj5, jr5, jk5, jc5, jo5⟩ := id r0_kr2
  refine zr_istore_n (ls' := [some (.ref ((x + 1))), some (.int (nI k)), some (.int ((zPf A k)))]) dX5_giveVerdict_5 rfl (by decide) rfl ?_
  refine zr_iload_n dX5_giveVerdict_6 rfl ?_
  refine zr_iconst (v := -1) dX5_giveVerdict_7 (by decide) ?_
  refine zr_icmp_ne (tgt := 32) dX5_giveVerdict_8 (by decide) (fun c_8 => ?_) (fun c_8 => ?_)
  · refine zr_aload_n dX5_giveVerdict_32 rfl ?_
    refine zr_getfield dX5_giveVerdict_33 fX5_12 hj5 rfl (by decide) ?_
    obtain ⟨wr6, rr6, mr6, tr6, ar6, fr6, ca6, cb6, cc6, cd6, ce6, cf6, cw6⟩ := id kR3
    refine zr_getfield dX5_giveVerdict_36 fX5_95 ca6 rfl (by decide) ?_
    refine zr_iload_n dX5_giveVerdict_39 rfl ?_
    refine zr_iload_n dX5_giveVerdict_40 rfl ?_
    refine zr_iastore dX5_giveVerdict_41 cc6 (vp_in_nI (n := k) (by omega) (by omega)) ?_
    rw [nI_clamp (n := k) (by omega)]
    refine zr_sig (fun ks7 e_ks7 => ?_)
    have kh8 : ks7.1 (x + 1) = .inr (3, [.ref ((x + 2)), .ref ((x + 24)), .ref ((x + 27)), .ref ((x + 29))]) := by rw [e_ks7, zup_ne _ _ (by omega)]; exact hj5
    have kh9 : ks7.1 (x + 2) = .inr (1, [.ref ((x + 2 + 1)), .ref ((x + 2 + 2)), .ref ((x + 2 + 3)), .ref ((x + 2 + 4)), .ref ((x + 2 + 5)), .int (nI (kC A)), .int (nI (kP A))]) := by rw [e_ks7, zup_ne _ _ (by omega)]; exact ca6
    have kh10 : ks7.1 (x + 2 + 1) = .inl (6, 8, .inr (.inr (.inr (.inr wr6)))) := by rw [e_ks7, zup_ne _ _ (by omega)]; exact cb6
    have kh11 : ks7.1 (x + 2 + 2) = .inl (0, 8, .inl (upd rr6 k (zPf A k))) := by rw [e_ks7]; exact zup_at _ _ _
    have kh12 : ks7.1 (x + 2 + 3) = .inl (0, 8, .inl mr6) := by rw [e_ks7, zup_ne _ _ (by omega)]; exact cd6
    have kh13 : ks7.1 (x + 2 + 4) = .inl (2, 8, .inl tr6) := by rw [e_ks7, zup_ne _ _ (by omega)]; exact ce6
    have kh14 : ks7.1 (x + 2 + 5) = .inl (2, 8, .inl ar6) := by rw [e_ks7, zup_ne _ _ (by omega)]; exact cf6
    have kF15 := zFr.put kF4 e_ks7 (by first | exact Or.inl (by unfold zIn; omega) | exact Or.inr (by unfold zJf; omega))
    have kR16 : zDA (x + 2) (aSetR A k (zPf A k)) ks7 := zDA.setR kR3 cc6 kh11 (zFr.put (P := fun q => q = (x + 2 + 2)) zFr.rf e_ks7 rfl)
    have kR17 : zRx (x + 24) ks7 := zRx.fr jr5 (zFr.put (P := fun q => q = (x + 2 + 2)) zFr.rf e_ks7 rfl) (by intro q h1 h2 h3; (try simp only [zIn, zJf] at h3); omega)
    have kR18 : zCu (x + 253) ks7 := zCu.fr jk5 (zFr.put (P := fun q => q = (x + 2 + 2)) zFr.rf e_ks7 rfl) (by intro q h1 h2 h3; (try simp only [zIn, zJf] at h3); omega)
    have kR19 : zCu (x + 27) ks7 := zCu.fr jc5 (zFr.put (P := fun q => q = (x + 2 + 2)) zFr.rf e_ks7 rfl) (by intro q h1 h2 h3; (try simp only [zIn, zJf] at h3); omega)
    have kR20 : zCu (x + 29) ks7 := zCu.fr jo5 (zFr.put (P := fun q => q = (x + 2 + 2)) zFr.rf e_ks7 rfl) (by intro q h1 h2 h3; (try simp only [zIn, zJf] at h3); omega)
    exact zr_return dX5_giveVerdict_42 rfl (⟨rfl, kF15, ⟨kh8, kR17, kR18, kR19, kR20⟩, by unfold aVer; rw [if_neg c_8]; exact kR16⟩)
  · have hv01 := zTg01 A k
    have hP9 : kP A < 8 := hP7
    have hA2 := hA.prec hP9 (c := k) (by omega) hv01
    refine zr_aload_n dX5_giveVerdict_11 rfl ?_
    refine zr_getfield dX5_giveVerdict_12 fX5_12 hj5 rfl (by decide) ?_
    refine zr_iload_n dX5_giveVerdict_15 rfl ?_
    refine zr_aload_n dX5_giveVerdict_16 rfl ?_
    refine zr_getfield dX5_giveVerdict_17 fX5_12 hj5 rfl (by decide) ?_
    obtain ⟨wr21, rr21, mr21, tr21, ar21, fr21, ca21, cb21, cc21, cd21, ce21, cf21, cw21⟩ := id kR3
    refine zr_getfield dX5_giveVerdict_20 fX5_59 ca21 rfl (by decide) ?_
    refine zr_iload_n dX5_giveVerdict_23 rfl ?_
    refine zr_aaload6 (b := (x + 2 + 6 + 2 * k)) dX5_giveVerdict_24 cb21 (vp_in_nI (n := k) (by omega) (by omega)) (by rw [nI_clamp (by omega)]; exact (cw21 k (by omega)).1) ?_
    refine zr_pSi [.int (nI k), .ref ((x + 2))] dX5_giveVerdict_25 vX5_133 (qX5_looksTangled hX (k := k) kR3 hA (by omega)) (by decide) (by decide) (by decide) rfl rfl (Nat.le_of_ble_eq_true rfl) rfl ?_
    refine zr_callVi [] dX5_giveVerdict_28 vX5_137 (qX3_addPrecedent hX (c := k) kR3 hA (by omega) hv01) ca21 (by decide) (by decide) (by decide) rfl rfl (Nat.le_of_ble_eq_true rfl) (by decide) rfl (fun kr22 s_kr22 h_kr22 => ?_)
    obtain ⟨e_kr22, F_kr22, r0_kr22⟩ := h_kr22
    have kh23 : s_kr22.1 (x + 1) = .inr (3, [.ref ((x + 2)), .ref ((x + 24)), .ref ((x + 27)), .ref ((x + 29))]) := zFr.get F_kr22 (by (try simp only [zIn]); omega) hj5
    have kR24 : zRx (x + 24) s_kr22 := zRx.fr jr5 F_kr22 (by intro q h1 h2 h3; (try simp only [zIn, zJf] at h3); omega)
    have kR25 : zCu (x + 253) s_kr22 := zCu.fr jk5 F_kr22 (by intro q h1 h2 h3; (try simp only [zIn, zJf] at h3); omega)
    have kR26 : zCu (x + 27) s_kr22 := zCu.fr jc5 F_kr22 (by intro q h1 h2 h3; (try simp only [zIn, zJf] at h3); omega)
    have kR27 : zCu (x + 29) s_kr22 := zCu.fr jo5 F_kr22 (by intro q h1 h2 h3; (try simp only [zIn, zJf] at h3); omega)
    have kF28 := zFr.tr kF4 F_kr22 (by intro q hq; (try simp only [zIn] at hq); (first | exact Or.inr (by unfold zJf; omega) | exact Or.inr hq | (rcases hq with hq | hq; exact Or.inl hq; exact Or.inr hq) | exact Or.inl (by unfold zIn; omega)))
    obtain rfl := e_kr22.symm
    refine zr_istore_n (ls' := [some (.ref ((x + 1))), some (.int (nI k)), some (.int (nI (kP A)))]) dX5_giveVerdict_31 rfl (by decide) rfl ?_
    refine zr_aload_n dX5_giveVerdict_32 rfl ?_
    refine zr_getfield dX5_giveVerdict_33 fX5_12 kh23 rfl (by decide) ?_
    obtain ⟨wr29, rr29, mr29, tr29, ar29, fr29, ca29, cb29, cc29, cd29, ce29, cf29, cw29⟩ := id r0_kr22
    refine zr_getfield dX5_giveVerdict_36 fX5_95 ca29 rfl (by decide) ?_
    refine zr_iload_n dX5_giveVerdict_39 rfl ?_
    refine zr_iload_n dX5_giveVerdict_40 rfl ?_
    refine zr_iastore dX5_giveVerdict_41 cc29 (vp_in_nI (n := k) (by omega) (by omega)) ?_
    rw [nI_clamp (n := k) (by omega)]
    refine zr_sig (fun ks30 e_ks30 => ?_)
    have kh31 : ks30.1 (x + 1) = .inr (3, [.ref ((x + 2)), .ref ((x + 24)), .ref ((x + 27)), .ref ((x + 29))]) := by rw [e_ks30, zup_ne _ _ (by omega)]; exact kh23
    have kh32 : ks30.1 (x + 2) = .inr (1, [.ref ((x + 2 + 1)), .ref ((x + 2 + 2)), .ref ((x + 2 + 3)), .ref ((x + 2 + 4)), .ref ((x + 2 + 5)), .int (nI (kC (aPrec A k (zTg A k)))), .int (nI (kP (aPrec A k (zTg A k))))]) := by rw [e_ks30, zup_ne _ _ (by omega)]; exact ca29
    have kh33 : ks30.1 (x + 2 + 1) = .inl (6, 8, .inr (.inr (.inr (.inr wr29)))) := by rw [e_ks30, zup_ne _ _ (by omega)]; exact cb29
    have kh34 : ks30.1 (x + 2 + 2) = .inl (0, 8, .inl (upd rr29 k (nI (kP A)))) := by rw [e_ks30]; exact zup_at _ _ _
    have kh35 : ks30.1 (x + 2 + 3) = .inl (0, 8, .inl mr29) := by rw [e_ks30, zup_ne _ _ (by omega)]; exact cd29
    have kh36 : ks30.1 (x + 2 + 4) = .inl (2, 8, .inl tr29) := by rw [e_ks30, zup_ne _ _ (by omega)]; exact ce29
    have kh37 : ks30.1 (x + 2 + 5) = .inl (2, 8, .inl ar29) := by rw [e_ks30, zup_ne _ _ (by omega)]; exact cf29
    have kF38 := zFr.put kF28 e_ks30 (by first | exact Or.inl (by unfold zIn; omega) | exact Or.inr (by unfold zJf; omega))
    have kR39 : zDA (x + 2) (aSetR (aPrec A k (zTg A k)) k (nI (kP A))) ks30 := zDA.setR r0_kr22 cc29 kh34 (zFr.put (P := fun q => q = (x + 2 + 2)) zFr.rf e_ks30 rfl)
    have kR40 : zRx (x + 24) ks30 := zRx.fr kR24 (zFr.put (P := fun q => q = (x + 2 + 2)) zFr.rf e_ks30 rfl) (by intro q h1 h2 h3; (try simp only [zIn, zJf] at h3); omega)
    have kR41 : zCu (x + 253) ks30 := zCu.fr kR25 (zFr.put (P := fun q => q = (x + 2 + 2)) zFr.rf e_ks30 rfl) (by intro q h1 h2 h3; (try simp only [zIn, zJf] at h3); omega)
    have kR42 : zCu (x + 27) ks30 := zCu.fr kR26 (zFr.put (P := fun q => q = (x + 2 + 2)) zFr.rf e_ks30 rfl) (by intro q h1 h2 h3; (try simp only [zIn, zJf] at h3); omega)
    have kR43 : zCu (x + 29) ks30 := zCu.fr kR27 (zFr.put (P := fun q => q = (x + 2 + 2)) zFr.rf e_ks30 rfl) (by intro q h1 h2 h3; (try simp only [zIn, zJf] at h3); omega)
    exact zr_return dX5_giveVerdict_42 rfl (⟨rfl, kF38, ⟨kh31, kR40, kR41, kR42, kR43⟩, by unfold aVer; rw [if_pos c_8]; exact kR39⟩)

set_option maxHeartbeats 400000 in
set_option maxRecDepth 100000 in
theorem qX5_reviewPrecedent {X : zX} (hX : X.1.stackTraces = false) {σ : zS} {x : Nat} {A : zDk} {p : Nat} (hJ : zJd x σ) (h : zDA (x + 2) A σ) (hA : zDw A) (hp : p < 8) : zMet X mX5_reviewPrecedent yX5_reviewPrecedent 5 0 0 [.ref ((x + 1)), .int (nI p)] σ (zI (fun y_ s => y_ = zRv A p ∧ zFr σ s (fun q => zIn (x + 2) q ∨ zJf x q) ∧ zJd x s ∧ zDA (x + 2) (aRev A p) s)) := by
  refine zMet_of (ls := [some (.ref ((x + 1))), some (.int (nI p))]) rfl (by decide +kernel) rfl (fun h => by cases h) hX (Nat.le_of_ble_eq_true rfl) rfl ?_
  obtain ⟨hj, jr, jk, jc, jo⟩ := id hJ
  obtain ⟨hC8, hP8, hW⟩ := id hA
  obtain ⟨hm8, em⟩ := hA.mk (i := p) (by omega)
  have hA1 := hA.setA (p := p)
  have hA2 := hA1.setT (p := p) (v := 1) (Or.inr rfl)
  have hA3 := hA1.setT (p := p) (v := 0) (Or.inl rfl)
  refine zr_aload_n dX5_reviewPrecedent_0 rfl ?_
  refine zr_getfield dX5_reviewPrecedent_1 fX5_12 hj rfl (by decide) ?_
  obtain ⟨wr1, rr1, mr1, tr1, ar1, fr1, ca1, cb1, cc1, cd1, ce1, cf1, cw1⟩ := id h
  refine zr_getfield dX5_reviewPrecedent_4 fX5_91 ca1 rfl (by decide) ?_
  refine zr_iload_n dX5_reviewPrecedent_7 rfl ?_
  refine zr_iconst (v := 1) dX5_reviewPrecedent_8 (by decide) ?_
  refine zr_bastore dX5_reviewPrecedent_9 cf1 (vp_in_nI (n := p) (by omega) (by omega)) (nar01 (Or.inr rfl)) ?_
  rw [nI_clamp (n := p) (by omega)]
  refine zr_sig (fun ks2 e_ks2 => ?_)
  have kh3 : ks2.1 (x + 1) = .inr (3, [.ref ((x + 2)), .ref ((x + 24)), .ref ((x + 27)), .ref ((x + 29))]) := by rw [e_ks2, zup_ne _ _ (by omega)]; exact hj
  have kh4 : ks2.1 (x + 2) = .inr (1, [.ref ((x + 2 + 1)), .ref ((x + 2 + 2)), .ref ((x + 2 + 3)), .ref ((x + 2 + 4)), .ref ((x + 2 + 5)), .int (nI (kC A)), .int (nI (kP A))]) := by rw [e_ks2, zup_ne _ _ (by omega)]; exact ca1
  have kh5 : ks2.1 (x + 2 + 1) = .inl (6, 8, .inr (.inr (.inr (.inr wr1)))) := by rw [e_ks2, zup_ne _ _ (by omega)]; exact cb1
  have kh6 : ks2.1 (x + 2 + 2) = .inl (0, 8, .inl rr1) := by rw [e_ks2, zup_ne _ _ (by omega)]; exact cc1
  have kh7 : ks2.1 (x + 2 + 3) = .inl (0, 8, .inl mr1) := by rw [e_ks2, zup_ne _ _ (by omega)]; exact cd1
  have kh8 : ks2.1 (x + 2 + 4) = .inl (2, 8, .inl tr1) := by rw [e_ks2, zup_ne _ _ (by omega)]; exact ce1
  have kh9 : ks2.1 (x + 2 + 5) = .inl (2, 8, .inl (upd ar1 p 1)) := by rw [e_ks2]; exact zup_at _ _ _
  have kF10 := zFr.put zFr.rf (P := (fun q => zIn (x + 2) q ∨ zJf x q)) e_ks2 (by first | exact Or.inl (by unfold zIn; omega) | exact Or.inr (by unfold zJf; omega))
  have kR11 : zDA (x + 2) (aSetA A p 1) ks2 := zDA.setA h cf1 kh9 (zFr.put (P := fun q => q = (x + 2 + 5)) zFr.rf e_ks2 rfl)
  have kR12 : zRx (x + 24) ks2 := zRx.fr jr (zFr.put (P := fun q => q = (x + 2 + 5)) zFr.rf e_ks2 rfl) (by intro q h1 h2 h3; (try simp only [zIn, zJf] at h3); omega)
  have kR13 : zCu (x + 253) ks2 := zCu.fr jk (zFr.put (P := fun q => q = (x + 2 + 5)) zFr.rf e_ks2 rfl) (by intro q h1 h2 h3; (try simp only [zIn, zJf] at h3); omega)
  have kR14 : zCu (x + 27) ks2 := zCu.fr jc (zFr.put (P := fun q => q = (x + 2 + 5)) zFr.rf e_ks2 rfl) (by intro q h1 h2 h3; (try simp only [zIn, zJf] at h3); omega)
  have kR15 : zCu (x + 29) ks2 := zCu.fr jo (zFr.put (P := fun q => q = (x + 2 + 5)) zFr.rf e_ks2 rfl) (by intro q h1 h2 h3; (try simp only [zIn, zJf] at h3); omega)
  refine zr_aload_n dX5_reviewPrecedent_10 rfl ?_
  refine zr_getfield dX5_reviewPrecedent_11 fX5_28 kh3 rfl (by decide) ?_
  refine zr_aload_n dX5_reviewPrecedent_14 rfl ?_
  refine zr_getfield dX5_reviewPrecedent_15 fX5_12 kh3 rfl (by decide) ?_
  obtain ⟨wr16, rr16, mr16, tr16, ar16, fr16, ca16, cb16, cc16, cd16, ce16, cf16, cw16⟩ := id kR11
  refine zr_getfield dX5_reviewPrecedent_18 fX5_59 ca16 rfl (by decide) ?_
  refine zr_aload_n dX5_reviewPrecedent_21 rfl ?_
  refine zr_getfield dX5_reviewPrecedent_22 fX5_12 kh3 rfl (by decide) ?_
  refine zr_getfield dX5_reviewPrecedent_25 fX5_147 ca16 rfl (by decide) ?_
  refine zr_iload_n dX5_reviewPrecedent_28 rfl ?_
  refine zr_iaload dX5_reviewPrecedent_29 cd16 (vp_in_nI (n := p) (by omega) (by omega)) ?_
  rw [nI_clamp (n := p) (by omega)]
  refine zr_eqi (x' := (kM (aSetA A p 1) p)) (cw16 p (by omega)).2.1.2.1 ?_
  refine zr_eqi (x' := nI (zmk A p)) (em) ?_
  refine zr_aaload6 (b := (x + 2 + 6 + 2 * (zmk A p))) dX5_reviewPrecedent_30 cb16 (vp_in_nI (n := (zmk A p)) (by omega) (by omega)) (by rw [nI_clamp (by omega)]; exact (cw16 (zmk A p) (by omega)).1) ?_
  refine zr_callVv [] dX5_reviewPrecedent_31 vX5_150 (qC_drawWord hX (i := (zmk A p)) kR14 kR11 hA1 (by omega) (by omega) (zDw.bw hA1 (by omega))) (zCu.obj kR14) (by decide) (by decide) (by decide) rfl rfl (Nat.le_of_ble_eq_true rfl) (by decide) rfl (fun s_kr17 h_kr17 => ?_)
  obtain ⟨F_kr17, r0_kr17⟩ := h_kr17
  have kh18 : s_kr17.1 (x + 1) = .inr (3, [.ref ((x + 2)), .ref ((x + 24)), .ref ((x + 27)), .ref ((x + 29))]) := zFr.get F_kr17 (by omega) kh3
  have kR19 : zDA (x + 2) (aSetA A p 1) s_kr17 := zDA.fr kR11 F_kr17 (by intro q h1 h2 h3; (try simp only [zIn, zJf] at h3); omega)
  have kR20 : zRx (x + 24) s_kr17 := zRx.fr kR12 F_kr17 (by intro q h1 h2 h3; (try simp only [zIn, zJf] at h3); omega)
  have kR21 : zCu (x + 253) s_kr17 := zCu.fr kR13 F_kr17 (by intro q h1 h2 h3; (try simp only [zIn, zJf] at h3); omega)
  have kR22 : zCu (x + 29) s_kr17 := zCu.fr kR15 F_kr17 (by intro q h1 h2 h3; (try simp only [zIn, zJf] at h3); omega)
  have kF23 := zFr.tr kF10 F_kr17 (by intro q hq; (try simp only [zIn] at hq); (first | exact Or.inr (by unfold zJf; omega) | exact Or.inr hq | (rcases hq with hq | hq; exact Or.inl hq; exact Or.inr hq) | exact Or.inl (by unfold zIn; omega)))
  refine zr_aload_n dX5_reviewPrecedent_34 rfl ?_
  refine zr_getfield dX5_reviewPrecedent_35 fX5_28 kh18 rfl (by decide) ?_
  refine zr_pVi [] dX5_reviewPrecedent_38 vX5_153 (qC_signOfFirst hX r0_kr17 (hA.b1 (by omega))) (zCo.obj r0_kr17) (by decide) (by decide) (by decide) rfl rfl (Nat.le_of_ble_eq_true rfl) (by decide) rfl ?_
  refine zr_eqi (x' := (zsf (zcw A (zmk A p)))) (rfl) ?_
  refine zr_iconst (v := 1) dX5_reviewPrecedent_41 (by decide) ?_
  refine zr_icmp_eq (tgt := 47) dX5_reviewPrecedent_42 (by decide) (fun c_42 => ?_) (fun c_42 => ?_)
  · refine zr_aload_n dX5_reviewPrecedent_47 rfl ?_
    refine zr_getfield dX5_reviewPrecedent_48 fX5_12 kh18 rfl (by decide) ?_
    obtain ⟨wr24, rr24, mr24, tr24, ar24, fr24, ca24, cb24, cc24, cd24, ce24, cf24, cw24⟩ := id kR19
    refine zr_getfield dX5_reviewPrecedent_51 fX5_156 ca24 rfl (by decide) ?_
    refine zr_iload_n dX5_reviewPrecedent_54 rfl ?_
    refine zr_aload_n dX5_reviewPrecedent_55 rfl ?_
    refine zr_getfield dX5_reviewPrecedent_56 fX5_12 kh18 rfl (by decide) ?_
    refine zr_getfield dX5_reviewPrecedent_59 fX5_156 ca24 rfl (by decide) ?_
    refine zr_iload_n dX5_reviewPrecedent_62 rfl ?_
    refine zr_baload dX5_reviewPrecedent_63 ce24 (vp_in_nI (n := p) (by omega) (by omega)) ?_
    rw [nI_clamp (n := p) (by omega)]
    refine zr_eqi (x' := (kT (aSetA A p 1) p)) (cw24 p (by omega)).2.1.2.2.1 ?_
    refine zr_eqi (x' := (kT A p)) (rfl) ?_
    refine zr_if_ne (tgt := 71) dX5_reviewPrecedent_64 (by decide) (fun c_64 => ?_) (fun c_64 => ?_)
    · refine zr_iconst (v := 0) dX5_reviewPrecedent_71 (by decide) ?_
      refine zr_bastore dX5_reviewPrecedent_72 ce24 (vp_in_nI (n := p) (by omega) (by omega)) (nar01 (by first | exact Or.inl rfl | exact Or.inr rfl)) ?_
      rw [nI_clamp (n := p) (by omega)]
      refine zr_sig (fun ks25 e_ks25 => ?_)
      have kh26 : ks25.1 (x + 1) = .inr (3, [.ref ((x + 2)), .ref ((x + 24)), .ref ((x + 27)), .ref ((x + 29))]) := by rw [e_ks25, zup_ne _ _ (by omega)]; exact kh18
      have kh27 : ks25.1 (x + 2) = .inr (1, [.ref ((x + 2 + 1)), .ref ((x + 2 + 2)), .ref ((x + 2 + 3)), .ref ((x + 2 + 4)), .ref ((x + 2 + 5)), .int (nI (kC (aSetA A p 1))), .int (nI (kP (aSetA A p 1)))]) := by rw [e_ks25, zup_ne _ _ (by omega)]; exact ca24
      have kh28 : ks25.1 (x + 2 + 1) = .inl (6, 8, .inr (.inr (.inr (.inr wr24)))) := by rw [e_ks25, zup_ne _ _ (by omega)]; exact cb24
      have kh29 : ks25.1 (x + 2 + 2) = .inl (0, 8, .inl rr24) := by rw [e_ks25, zup_ne _ _ (by omega)]; exact cc24
      have kh30 : ks25.1 (x + 2 + 3) = .inl (0, 8, .inl mr24) := by rw [e_ks25, zup_ne _ _ (by omega)]; exact cd24
      have kh31 : ks25.1 (x + 2 + 4) = .inl (2, 8, .inl (upd tr24 p 0)) := by rw [e_ks25]; exact zup_at _ _ _
      have kh32 : ks25.1 (x + 2 + 5) = .inl (2, 8, .inl ar24) := by rw [e_ks25, zup_ne _ _ (by omega)]; exact cf24
      have kF33 := zFr.put kF23 e_ks25 (by first | exact Or.inl (by unfold zIn; omega) | exact Or.inr (by unfold zJf; omega))
      have kR34 : zDA (x + 2) (aSetT (aSetA A p 1) p 0) ks25 := zDA.setT kR19 ce24 kh31 (zFr.put (P := fun q => q = (x + 2 + 4)) zFr.rf e_ks25 rfl)
      have kR35 : zRx (x + 24) ks25 := zRx.fr kR20 (zFr.put (P := fun q => q = (x + 2 + 4)) zFr.rf e_ks25 rfl) (by intro q h1 h2 h3; (try simp only [zIn, zJf] at h3); omega)
      have kR36 : zCu (x + 253) ks25 := zCu.fr kR21 (zFr.put (P := fun q => q = (x + 2 + 4)) zFr.rf e_ks25 rfl) (by intro q h1 h2 h3; (try simp only [zIn, zJf] at h3); omega)
      have kR37 : zCo (x + 27) (zcv z0 (zWd (aSetA A p 1) (zmk A p))) ks25 := zCo.fr r0_kr17 (zFr.put (P := fun q => q = (x + 2 + 4)) zFr.rf e_ks25 rfl) (by intro q h1 h2 h3; (try simp only [zIn, zJf] at h3); omega)
      have kR38 : zCu (x + 29) ks25 := zCu.fr kR22 (zFr.put (P := fun q => q = (x + 2 + 4)) zFr.rf e_ks25 rfl) (by intro q h1 h2 h3; (try simp only [zIn, zJf] at h3); omega)
      refine zr_aload_n dX5_reviewPrecedent_73 rfl ?_
      refine zr_getfield dX5_reviewPrecedent_74 fX5_12 kh26 rfl (by decide) ?_
      refine zr_iload_n dX5_reviewPrecedent_77 rfl ?_
      refine zr_pVi [] dX5_reviewPrecedent_78 vX5_159 (qX3_countRestingOn hX (p := p) kR34 hA3 ) (zDA.obj kR34) (by decide) (by decide) (by decide) rfl rfl (Nat.le_of_ble_eq_true rfl) (by decide) rfl ?_
      exact zr_ireturn dX5_reviewPrecedent_81 rfl (rfl) (⟨_, rfl, by unfold zRv; rw [if_pos c_42]; rfl, kF33, ⟨kh26, kR35, kR36, (zCo.cu kR37), kR38⟩, by unfold aRev; rw [if_pos c_42]; rw [if_neg c_64]; exact kR34⟩)
    · refine zr_iconst (v := 1) dX5_reviewPrecedent_67 (by decide) ?_
      refine zr_goto (tgt := 72) dX5_reviewPrecedent_68 (by decide) ?_
      refine zr_bastore dX5_reviewPrecedent_72 ce24 (vp_in_nI (n := p) (by omega) (by omega)) (nar01 (by first | exact Or.inl rfl | exact Or.inr rfl)) ?_
      rw [nI_clamp (n := p) (by omega)]
      refine zr_sig (fun ks39 e_ks39 => ?_)
      have kh40 : ks39.1 (x + 1) = .inr (3, [.ref ((x + 2)), .ref ((x + 24)), .ref ((x + 27)), .ref ((x + 29))]) := by rw [e_ks39, zup_ne _ _ (by omega)]; exact kh18
      have kh41 : ks39.1 (x + 2) = .inr (1, [.ref ((x + 2 + 1)), .ref ((x + 2 + 2)), .ref ((x + 2 + 3)), .ref ((x + 2 + 4)), .ref ((x + 2 + 5)), .int (nI (kC (aSetA A p 1))), .int (nI (kP (aSetA A p 1)))]) := by rw [e_ks39, zup_ne _ _ (by omega)]; exact ca24
      have kh42 : ks39.1 (x + 2 + 1) = .inl (6, 8, .inr (.inr (.inr (.inr wr24)))) := by rw [e_ks39, zup_ne _ _ (by omega)]; exact cb24
      have kh43 : ks39.1 (x + 2 + 2) = .inl (0, 8, .inl rr24) := by rw [e_ks39, zup_ne _ _ (by omega)]; exact cc24
      have kh44 : ks39.1 (x + 2 + 3) = .inl (0, 8, .inl mr24) := by rw [e_ks39, zup_ne _ _ (by omega)]; exact cd24
      have kh45 : ks39.1 (x + 2 + 4) = .inl (2, 8, .inl (upd tr24 p 1)) := by rw [e_ks39]; exact zup_at _ _ _
      have kh46 : ks39.1 (x + 2 + 5) = .inl (2, 8, .inl ar24) := by rw [e_ks39, zup_ne _ _ (by omega)]; exact cf24
      have kF47 := zFr.put kF23 e_ks39 (by first | exact Or.inl (by unfold zIn; omega) | exact Or.inr (by unfold zJf; omega))
      have kR48 : zDA (x + 2) (aSetT (aSetA A p 1) p 1) ks39 := zDA.setT kR19 ce24 kh45 (zFr.put (P := fun q => q = (x + 2 + 4)) zFr.rf e_ks39 rfl)
      have kR49 : zRx (x + 24) ks39 := zRx.fr kR20 (zFr.put (P := fun q => q = (x + 2 + 4)) zFr.rf e_ks39 rfl) (by intro q h1 h2 h3; (try simp only [zIn, zJf] at h3); omega)
      have kR50 : zCu (x + 253) ks39 := zCu.fr kR21 (zFr.put (P := fun q => q = (x + 2 + 4)) zFr.rf e_ks39 rfl) (by intro q h1 h2 h3; (try simp only [zIn, zJf] at h3); omega)
      have kR51 : zCo (x + 27) (zcv z0 (zWd (aSetA A p 1) (zmk A p))) ks39 := zCo.fr r0_kr17 (zFr.put (P := fun q => q = (x + 2 + 4)) zFr.rf e_ks39 rfl) (by intro q h1 h2 h3; (try simp only [zIn, zJf] at h3); omega)
      have kR52 : zCu (x + 29) ks39 := zCu.fr kR22 (zFr.put (P := fun q => q = (x + 2 + 4)) zFr.rf e_ks39 rfl) (by intro q h1 h2 h3; (try simp only [zIn, zJf] at h3); omega)
      refine zr_aload_n dX5_reviewPrecedent_73 rfl ?_
      refine zr_getfield dX5_reviewPrecedent_74 fX5_12 kh40 rfl (by decide) ?_
      refine zr_iload_n dX5_reviewPrecedent_77 rfl ?_
      refine zr_pVi [] dX5_reviewPrecedent_78 vX5_159 (qX3_countRestingOn hX (p := p) kR48 hA2 ) (zDA.obj kR48) (by decide) (by decide) (by decide) rfl rfl (Nat.le_of_ble_eq_true rfl) (by decide) rfl ?_
      exact zr_ireturn dX5_reviewPrecedent_81 rfl (rfl) (⟨_, rfl, by unfold zRv; rw [if_pos c_42]; rfl, kF47, ⟨kh40, kR49, kR50, (zCo.cu kR51), kR52⟩, by unfold aRev; rw [if_pos c_42]; rw [if_pos c_64]; exact kR48⟩)
  · refine zr_iconst (v := 0) dX5_reviewPrecedent_45 (by decide) ?_
    exact zr_ireturn dX5_reviewPrecedent_46 rfl (rfl) (⟨_, rfl, by unfold zRv; rw [if_neg c_42], kF23, ⟨kh18, kR20, kR21, (zCo.cu r0_kr17), kR22⟩, by unfold aRev; rw [if_neg c_42]; exact kR19⟩)

