/-! the reference runs a command of its text -/
theorem zlet_md {c : Int32} (h : ¬ zlet c = 0) : (c.toUInt32 % 65536).toInt32 = c := by
  have hc : ¬ c < 0 ∧ c ≤ 100 := by
    unfold zlet at h
    by_cases q : 97 ≤ c ∧ c ≤ 100
    · exact ⟨fun z => absurd (Int32.lt_of_le_of_lt q.1 z) (by decide), q.2⟩
    · rw [if_neg q] at h
      by_cases q2 : 65 ≤ c ∧ c ≤ 68
      · exact ⟨fun z => absurd (Int32.lt_of_le_of_lt q2.1 z) (by decide), Int32.le_trans q2.2 (by decide)⟩
      · rw [if_neg q2] at h; exact absurd rfl h
  obtain ⟨j, hj, e⟩ := nI_of2 (x := c) (M := 100) (n := 100) rfl hc.1 hc.2
  subst e
  exact Value.int.inj (pk_charN (q := j) (by omega)).1
theorem zOb_8 {A : zDk} {c k : Nat} (hc : ¬ c = 0) (hk : ¬ k < kC A) : zOb A c k = 8 := by unfold zOb; rw [if_neg hc, if_pos hk]
theorem zno_k {A : zDk} {k : Nat} (hC : kC A ≤ 8) (h : k < 10) (hk : ¬ k < kC A) : ¬ (¬ nI k < 0 ∧ nI k < nI (kC A)) := fun q => hk ((nI_ltI (by omega) (by omega)).mp q.2)
set_option maxHeartbeats 400000 in
set_option maxRecDepth 100000 in
theorem qX10_carY0 {X : zX} (hX : X.1.stackTraces = false) {σ : zS} {y : Nat} {tm cd dn : Int32} {K : zDk} {A S : zDk} {m : Nat} {U : Nat → zDk} {n : Nat} {T : Nat → Int32} {ll : Nat} {ln : Nat → Int32} {hs kf ld dt dc : Int32} {td : Nat → Int32} {t k : Nat} {l : Int32} (hM : zMo y 1 tm cd dn K A S m U n T ll ln hs kf ld dt dc σ) (gA : zGd A) (ht : σ.1 (y + 11) = .inl (0, 93, .inl td)) (ht12 : t ≤ 12) (wU : ∀ t, t < m → zDw (U t)) (e0 : td (3 * t) = 0)   (hAl : zAl A 0 0) : zMet X mX10_carries yX10_carries 6 0 0 [.ref y, .int (nI (3 * t))] σ (zI (fun y_ s => zFr σ s (zMq y) ∧ ∃ dn1, zMo y 1 tm 0 dn1 K (aCase A) S m U n T ll ln hs kf ld dt dc s)) := by
  refine zMet_of (ls := [some (.ref y), some (.int (nI (3 * t))), none]) rfl (by decide +kernel) rfl (fun h => by cases h) hX (Nat.le_of_ble_eq_true rfl) rfl ?_
  obtain ⟨F, g, kp, sv, bf, ip, sg, td0, h0, hf, -⟩ := id hM
  have hA := gA.1
  refine zr_aload_n dX10_carries_0 rfl ?_
  refine zr_getM (v := .ref (y + 11)) dX10_carries_1 fX10_46 h0 rfl ?_
  refine zr_iload_n dX10_carries_4 rfl ?_
  refine zr_iconst (v := 1) dX10_carries_5 (by decide) ?_
  refine zr_iadd dX10_carries_6 ?_
  refine zr_eqi (x' := nI ((3 * t) + 1)) (nI_add (3 * t) 1) ?_
  refine zr_iaload dX10_carries_7 ht (vp_in_nI (n := (3 * t) + 1) (by omega) (by omega)) ?_
  rw [nI_clamp (n := (3 * t) + 1) (by omega)]
  refine zr_istore_n (ls' := [some (.ref y), some (.int (nI (3 * t))), some (.int ((td ((3 * t) + 1))))]) dX10_carries_8 rfl (by decide) rfl ?_
  refine zr_aload_n dX10_carries_9 rfl ?_
  refine zr_getM (v := .ref (y + 11)) dX10_carries_10 fX10_46 h0 rfl ?_
  refine zr_iload_n dX10_carries_13 rfl ?_
  refine zr_iaload dX10_carries_14 ht (vp_in_nI (n := 3 * t) (by omega) (by omega)) ?_
  rw [nI_clamp (n := 3 * t) (by omega)]
  refine zr_eqi (x' := 0) (e0) ?_
  refine zr_tableIn (off := 37) (tgt := 52) dX10_carries_15 (by decide) (by decide) (by decide) (by decide) ?_
  refine zr_aload_n dX10_carries_52 rfl ?_
  refine zr_callVi [] dX10_carries_53 vX10_274 (qX10_openCase hX hM gA wU (hAl.1 rfl)) h0 (by decide) (by decide) (by decide) rfl rfl (Nat.le_of_ble_eq_true rfl) (by decide) rfl (fun r1 s1 h_ => ?_)
  obtain ⟨-, F1, hM1⟩ := h_
  have eN : mN 1 m = m := if_neg (by decide)
  have eU : UN 1 A U = U := if_neg (by decide)
  rw [eN, eU] at hM1
  refine zr_ireturn dX10_carries_56 rfl (rfl) ?_
  exact ⟨_, rfl, F1, _, hM1⟩

set_option maxHeartbeats 400000 in
set_option maxRecDepth 100000 in
theorem qX10_carD0 {X : zX} (hX : X.1.stackTraces = false) {σ : zS} {y : Nat} {tm cd dn : Int32} {K : zDk} {A S : zDk} {m : Nat} {U : Nat → zDk} {n : Nat} {T : Nat → Int32} {ll : Nat} {ln : Nat → Int32} {hs kf ld dt dc : Int32} {td : Nat → Int32} {t k : Nat} {l : Int32} (hM : zMo y 1 tm cd dn K A S m U n T ll ln hs kf ld dt dc σ) (gA : zGd A) (ht : σ.1 (y + 11) = .inl (0, 93, .inl td)) (ht12 : t ≤ 12) (wU : ∀ t, t < m → zDw (U t)) (e0 : td (3 * t) = 0)   (hno : ¬ zOb A 0 0 = 0) : zMet X mX10_carries yX10_carries 6 0 0 [.ref y, .int (nI (3 * t))] σ (zI (fun y_ s => zFr σ s (zMq y) ∧ ∃ cd1 dn1 ld1 dt1 dc1 : Int32, 0 < cd1 ∧ zMo y 1 tm cd1 dn1 K A S m U n T ll ln hs kf ld1 dt1 dc1 s ∧ (if dn1 = 0 then 8 else ld1) = zOb A 0 0)) := by
  refine zMet_of (ls := [some (.ref y), some (.int (nI (3 * t))), none]) rfl (by decide +kernel) rfl (fun h => by cases h) hX (Nat.le_of_ble_eq_true rfl) rfl ?_
  obtain ⟨F, g, kp, sv, bf, ip, sg, td0, h0, hf, -⟩ := id hM
  have hA := gA.1
  refine zr_aload_n dX10_carries_0 rfl ?_
  refine zr_getM (v := .ref (y + 11)) dX10_carries_1 fX10_46 h0 rfl ?_
  refine zr_iload_n dX10_carries_4 rfl ?_
  refine zr_iconst (v := 1) dX10_carries_5 (by decide) ?_
  refine zr_iadd dX10_carries_6 ?_
  refine zr_eqi (x' := nI ((3 * t) + 1)) (nI_add (3 * t) 1) ?_
  refine zr_iaload dX10_carries_7 ht (vp_in_nI (n := (3 * t) + 1) (by omega) (by omega)) ?_
  rw [nI_clamp (n := (3 * t) + 1) (by omega)]
  refine zr_istore_n (ls' := [some (.ref y), some (.int (nI (3 * t))), some (.int ((td ((3 * t) + 1))))]) dX10_carries_8 rfl (by decide) rfl ?_
  refine zr_aload_n dX10_carries_9 rfl ?_
  refine zr_getM (v := .ref (y + 11)) dX10_carries_10 fX10_46 h0 rfl ?_
  refine zr_iload_n dX10_carries_13 rfl ?_
  refine zr_iaload dX10_carries_14 ht (vp_in_nI (n := 3 * t) (by omega) (by omega)) ?_
  rw [nI_clamp (n := 3 * t) (by omega)]
  refine zr_eqi (x' := 0) (e0) ?_
  refine zr_tableIn (off := 37) (tgt := 52) dX10_carries_15 (by decide) (by decide) (by decide) (by decide) ?_
  refine zr_aload_n dX10_carries_52 rfl ?_
  refine zr_callVi [] dX10_carries_53 vX10_274 (qX10_openCaseD hX hM gA hno) h0 (by decide) (by decide) (by decide) rfl rfl (Nat.le_of_ble_eq_true rfl) (by decide) rfl (fun r1 s1 h_ => ?_)
  obtain ⟨-, F1, hM1⟩ := h_
  refine zr_ireturn dX10_carries_56 rfl (rfl) ?_
  exact ⟨_, rfl, F1, _, _, _, _, _, by decide, hM1, rfl⟩

set_option maxHeartbeats 400000 in
set_option maxRecDepth 100000 in
theorem qX10_carY1 {X : zX} (hX : X.1.stackTraces = false) {σ : zS} {y : Nat} {tm cd dn : Int32} {K : zDk} {A S : zDk} {m : Nat} {U : Nat → zDk} {n : Nat} {T : Nat → Int32} {ll : Nat} {ln : Nat → Int32} {hs kf ld dt dc : Int32} {td : Nat → Int32} {t k : Nat} {l : Int32} (hM : zMo y 1 tm cd dn K A S m U n T ll ln hs kf ld dt dc σ) (gA : zGd A) (ht : σ.1 (y + 11) = .inl (0, 93, .inl td)) (ht12 : t ≤ 12) (wU : ∀ t, t < m → zDw (U t)) (e0 : td (3 * t) = 1) (e1 : td (3 * t + 1) = nI k) (e2 : zlet (td (3 * t + 2)) = l) (el : ¬ l = 0) (hAl : zAl A 1 k) : zMet X mX10_carries yX10_carries 6 0 0 [.ref y, .int (nI (3 * t))] σ (zI (fun y_ s => zFr σ s (zMq y) ∧ ∃ dn1, zMo y 1 tm 0 dn1 K (aWord A k (kN A k + 1) (upd (kL A k) (kN A k) l)) S m U n T ll ln hs kf ld dt dc s)) := by
  refine zMet_of (ls := [some (.ref y), some (.int (nI (3 * t))), none]) rfl (by decide +kernel) rfl (fun h => by cases h) hX (Nat.le_of_ble_eq_true rfl) rfl ?_
  obtain ⟨F, g, kp, sv, bf, ip, sg, td0, h0, hf, -⟩ := id hM
  have hA := gA.1
  have hi : k < kC A := hAl.2.1 (by decide)
  have hr : kR A k = -1 := hAl.2.2.2.2.2.1 (by decide) (by decide)
  refine zr_aload_n dX10_carries_0 rfl ?_
  refine zr_getM (v := .ref (y + 11)) dX10_carries_1 fX10_46 h0 rfl ?_
  refine zr_iload_n dX10_carries_4 rfl ?_
  refine zr_iconst (v := 1) dX10_carries_5 (by decide) ?_
  refine zr_iadd dX10_carries_6 ?_
  refine zr_eqi (x' := nI ((3 * t) + 1)) (nI_add (3 * t) 1) ?_
  refine zr_iaload dX10_carries_7 ht (vp_in_nI (n := (3 * t) + 1) (by omega) (by omega)) ?_
  rw [nI_clamp (n := (3 * t) + 1) (by omega)]
  refine zr_eqi (x' := (nI k)) (e1) ?_
  refine zr_istore_n (ls' := [some (.ref y), some (.int (nI (3 * t))), some (.int ((nI k)))]) dX10_carries_8 rfl (by decide) rfl ?_
  refine zr_aload_n dX10_carries_9 rfl ?_
  refine zr_getM (v := .ref (y + 11)) dX10_carries_10 fX10_46 h0 rfl ?_
  refine zr_iload_n dX10_carries_13 rfl ?_
  refine zr_iaload dX10_carries_14 ht (vp_in_nI (n := 3 * t) (by omega) (by omega)) ?_
  rw [nI_clamp (n := 3 * t) (by omega)]
  refine zr_eqi (x' := 1) (e0) ?_
  refine zr_tableIn (off := 42) (tgt := 57) dX10_carries_15 (by decide) (by decide) (by decide) (by decide) ?_
  refine zr_aload_n dX10_carries_57 rfl ?_
  refine zr_iload_n dX10_carries_58 rfl ?_
  refine zr_aload_n dX10_carries_59 rfl ?_
  refine zr_getM (v := .ref (y + 11)) dX10_carries_60 fX10_46 h0 rfl ?_
  refine zr_iload_n dX10_carries_63 rfl ?_
  refine zr_iconst (v := 2) dX10_carries_64 (by decide) ?_
  refine zr_iadd dX10_carries_65 ?_
  refine zr_eqi (x' := nI ((3 * t) + 2)) (nI_add (3 * t) 2) ?_
  refine zr_iaload dX10_carries_66 ht (vp_in_nI (n := (3 * t) + 2) (by omega) (by omega)) ?_
  rw [nI_clamp (n := (3 * t) + 2) (by omega)]
  refine zr_i2c dX10_carries_67 ?_
  refine zr_eqi (x' := (td (3 * t + 2))) (zlet_md (by rw [e2]; exact el)) ?_
  refine zr_callVi [] dX10_carries_68 vX10_277 (qX10_cross hX (i := k) (c := td (3 * t + 2)) hM gA hi (by rw [e2]; exact el) hr (hAl.2.2.1 rfl) wU) h0 (by decide) (by decide) (by decide) rfl rfl (Nat.le_of_ble_eq_true rfl) (by decide) rfl (fun r1 s1 h_ => ?_)
  obtain ⟨-, F1, hM1⟩ := h_
  have eN : mN 1 m = m := if_neg (by decide)
  have eU : UN 1 A U = U := if_neg (by decide)
  rw [eN, eU] at hM1
  refine zr_ireturn dX10_carries_71 rfl (rfl) ?_
  rw [e2] at hM1
  exact ⟨_, rfl, F1, _, hM1⟩

set_option maxHeartbeats 400000 in
set_option maxRecDepth 100000 in
theorem qX10_carD1 {X : zX} (hX : X.1.stackTraces = false) {σ : zS} {y : Nat} {tm cd dn : Int32} {K : zDk} {A S : zDk} {m : Nat} {U : Nat → zDk} {n : Nat} {T : Nat → Int32} {ll : Nat} {ln : Nat → Int32} {hs kf ld dt dc : Int32} {td : Nat → Int32} {t k : Nat} {l : Int32} (hM : zMo y 1 tm cd dn K A S m U n T ll ln hs kf ld dt dc σ) (gA : zGd A) (ht : σ.1 (y + 11) = .inl (0, 93, .inl td)) (ht12 : t ≤ 12) (wU : ∀ t, t < m → zDw (U t)) (e0 : td (3 * t) = 1) (e1 : td (3 * t + 1) = nI k) (e2 : zlet (td (3 * t + 2)) = l) (el : ¬ l = 0) (hno : ¬ zOb A 1 k = 0) (hi : k < kC A) : zMet X mX10_carries yX10_carries 6 0 0 [.ref y, .int (nI (3 * t))] σ (zI (fun y_ s => zFr σ s (zMq y) ∧ ∃ cd1 dn1 ld1 dt1 dc1 : Int32, 0 < cd1 ∧ zMo y 1 tm cd1 dn1 K A S m U n T ll ln hs kf ld1 dt1 dc1 s ∧ (if dn1 = 0 then 8 else ld1) = zOb A 1 k)) := by
  refine zMet_of (ls := [some (.ref y), some (.int (nI (3 * t))), none]) rfl (by decide +kernel) rfl (fun h => by cases h) hX (Nat.le_of_ble_eq_true rfl) rfl ?_
  obtain ⟨F, g, kp, sv, bf, ip, sg, td0, h0, hf, -⟩ := id hM
  have hA := gA.1
  refine zr_aload_n dX10_carries_0 rfl ?_
  refine zr_getM (v := .ref (y + 11)) dX10_carries_1 fX10_46 h0 rfl ?_
  refine zr_iload_n dX10_carries_4 rfl ?_
  refine zr_iconst (v := 1) dX10_carries_5 (by decide) ?_
  refine zr_iadd dX10_carries_6 ?_
  refine zr_eqi (x' := nI ((3 * t) + 1)) (nI_add (3 * t) 1) ?_
  refine zr_iaload dX10_carries_7 ht (vp_in_nI (n := (3 * t) + 1) (by omega) (by omega)) ?_
  rw [nI_clamp (n := (3 * t) + 1) (by omega)]
  refine zr_eqi (x' := (nI k)) (e1) ?_
  refine zr_istore_n (ls' := [some (.ref y), some (.int (nI (3 * t))), some (.int ((nI k)))]) dX10_carries_8 rfl (by decide) rfl ?_
  refine zr_aload_n dX10_carries_9 rfl ?_
  refine zr_getM (v := .ref (y + 11)) dX10_carries_10 fX10_46 h0 rfl ?_
  refine zr_iload_n dX10_carries_13 rfl ?_
  refine zr_iaload dX10_carries_14 ht (vp_in_nI (n := 3 * t) (by omega) (by omega)) ?_
  rw [nI_clamp (n := 3 * t) (by omega)]
  refine zr_eqi (x' := 1) (e0) ?_
  refine zr_tableIn (off := 42) (tgt := 57) dX10_carries_15 (by decide) (by decide) (by decide) (by decide) ?_
  refine zr_aload_n dX10_carries_57 rfl ?_
  refine zr_iload_n dX10_carries_58 rfl ?_
  refine zr_aload_n dX10_carries_59 rfl ?_
  refine zr_getM (v := .ref (y + 11)) dX10_carries_60 fX10_46 h0 rfl ?_
  refine zr_iload_n dX10_carries_63 rfl ?_
  refine zr_iconst (v := 2) dX10_carries_64 (by decide) ?_
  refine zr_iadd dX10_carries_65 ?_
  refine zr_eqi (x' := nI ((3 * t) + 2)) (nI_add (3 * t) 2) ?_
  refine zr_iaload dX10_carries_66 ht (vp_in_nI (n := (3 * t) + 2) (by omega) (by omega)) ?_
  rw [nI_clamp (n := (3 * t) + 2) (by omega)]
  refine zr_i2c dX10_carries_67 ?_
  refine zr_eqi (x' := (td (3 * t + 2))) (zlet_md (by rw [e2]; exact el)) ?_
  refine zr_callVi [] dX10_carries_68 vX10_277 (qX10_crossD hX (i := k) (c := td (3 * t + 2)) hM gA hi (by rw [e2]; exact el) hno) h0 (by decide) (by decide) (by decide) rfl rfl (Nat.le_of_ble_eq_true rfl) (by decide) rfl (fun r1 s1 h_ => ?_)
  obtain ⟨-, F1, hM1⟩ := h_
  refine zr_ireturn dX10_carries_71 rfl (rfl) ?_
  exact ⟨_, rfl, F1, _, _, _, _, _, by decide, hM1, rfl⟩

set_option maxHeartbeats 400000 in
set_option maxRecDepth 100000 in
theorem qX10_carX1 {X : zX} (hX : X.1.stackTraces = false) {σ : zS} {y : Nat} {tm cd dn : Int32} {K : zDk} {A S : zDk} {m : Nat} {U : Nat → zDk} {n : Nat} {T : Nat → Int32} {ll : Nat} {ln : Nat → Int32} {hs kf ld dt dc : Int32} {td : Nat → Int32} {t k : Nat} {l : Int32} (hM : zMo y 1 tm cd dn K A S m U n T ll ln hs kf ld dt dc σ) (gA : zGd A) (ht : σ.1 (y + 11) = .inl (0, 93, .inl td)) (ht12 : t ≤ 12) (wU : ∀ t, t < m → zDw (U t)) (e0 : td (3 * t) = 1) (e1 : td (3 * t + 1) = nI k) (e2 : zlet (td (3 * t + 2)) = l) (el : ¬ l = 0) (hk10 : k < 10) (hnk : ¬ k < kC A) : zMet X mX10_carries yX10_carries 6 0 0 [.ref y, .int (nI (3 * t))] σ (zI (fun y_ s => zFr σ s (zMq y) ∧ ∃ cd1 dn1 ld1 dt1 dc1 : Int32, 0 < cd1 ∧ zMo y 1 tm cd1 dn1 K A S m U n T ll ln hs kf ld1 dt1 dc1 s ∧ (if dn1 = 0 then 8 else ld1) = zOb A 1 k)) := by
  refine zMet_of (ls := [some (.ref y), some (.int (nI (3 * t))), none]) rfl (by decide +kernel) rfl (fun h => by cases h) hX (Nat.le_of_ble_eq_true rfl) rfl ?_
  obtain ⟨F, g, kp, sv, bf, ip, sg, td0, h0, hf, -⟩ := id hM
  have hA := gA.1
  refine zr_aload_n dX10_carries_0 rfl ?_
  refine zr_getM (v := .ref (y + 11)) dX10_carries_1 fX10_46 h0 rfl ?_
  refine zr_iload_n dX10_carries_4 rfl ?_
  refine zr_iconst (v := 1) dX10_carries_5 (by decide) ?_
  refine zr_iadd dX10_carries_6 ?_
  refine zr_eqi (x' := nI ((3 * t) + 1)) (nI_add (3 * t) 1) ?_
  refine zr_iaload dX10_carries_7 ht (vp_in_nI (n := (3 * t) + 1) (by omega) (by omega)) ?_
  rw [nI_clamp (n := (3 * t) + 1) (by omega)]
  refine zr_eqi (x' := (nI k)) (e1) ?_
  refine zr_istore_n (ls' := [some (.ref y), some (.int (nI (3 * t))), some (.int ((nI k)))]) dX10_carries_8 rfl (by decide) rfl ?_
  refine zr_aload_n dX10_carries_9 rfl ?_
  refine zr_getM (v := .ref (y + 11)) dX10_carries_10 fX10_46 h0 rfl ?_
  refine zr_iload_n dX10_carries_13 rfl ?_
  refine zr_iaload dX10_carries_14 ht (vp_in_nI (n := 3 * t) (by omega) (by omega)) ?_
  rw [nI_clamp (n := 3 * t) (by omega)]
  refine zr_eqi (x' := 1) (e0) ?_
  refine zr_tableIn (off := 42) (tgt := 57) dX10_carries_15 (by decide) (by decide) (by decide) (by decide) ?_
  refine zr_aload_n dX10_carries_57 rfl ?_
  refine zr_iload_n dX10_carries_58 rfl ?_
  refine zr_aload_n dX10_carries_59 rfl ?_
  refine zr_getM (v := .ref (y + 11)) dX10_carries_60 fX10_46 h0 rfl ?_
  refine zr_iload_n dX10_carries_63 rfl ?_
  refine zr_iconst (v := 2) dX10_carries_64 (by decide) ?_
  refine zr_iadd dX10_carries_65 ?_
  refine zr_eqi (x' := nI ((3 * t) + 2)) (nI_add (3 * t) 2) ?_
  refine zr_iaload dX10_carries_66 ht (vp_in_nI (n := (3 * t) + 2) (by omega) (by omega)) ?_
  rw [nI_clamp (n := (3 * t) + 2) (by omega)]
  refine zr_i2c dX10_carries_67 ?_
  refine zr_eqi (x' := (td (3 * t + 2))) (zlet_md (by rw [e2]; exact el)) ?_
  refine zr_callVi [] dX10_carries_68 vX10_277 (qX10_crossX hX (p := nI k) (c := td (3 * t + 2)) hM gA (zno_k hA.1 hk10 hnk)) h0 (by decide) (by decide) (by decide) rfl rfl (Nat.le_of_ble_eq_true rfl) (by decide) rfl (fun r1 s1 h_ => ?_)
  obtain ⟨-, F1, hM1⟩ := h_
  refine zr_ireturn dX10_carries_71 rfl (rfl) ?_
  exact ⟨_, rfl, F1, _, _, _, _, _, by decide, hM1, (zOb_8 (by decide) hnk).symm⟩

set_option maxHeartbeats 400000 in
set_option maxRecDepth 100000 in
theorem qX10_carY2 {X : zX} (hX : X.1.stackTraces = false) {σ : zS} {y : Nat} {tm cd dn : Int32} {K : zDk} {A S : zDk} {m : Nat} {U : Nat → zDk} {n : Nat} {T : Nat → Int32} {ll : Nat} {ln : Nat → Int32} {hs kf ld dt dc : Int32} {td : Nat → Int32} {t k : Nat} {l : Int32} (hM : zMo y 1 tm cd dn K A S m U n T ll ln hs kf ld dt dc σ) (gA : zGd A) (ht : σ.1 (y + 11) = .inl (0, 93, .inl td)) (ht12 : t ≤ 12) (wU : ∀ t, t < m → zDw (U t)) (e0 : td (3 * t) = 2) (e1 : td (3 * t + 1) = nI k)  (hAl : zAl A 2 k) : zMet X mX10_carries yX10_carries 6 0 0 [.ref y, .int (nI (3 * t))] σ (zI (fun y_ s => zFr σ s (zMq y) ∧ ∃ dn1, zMo y 1 tm 0 dn1 K (aWord A k (kN A k - 1) (kL A k)) S m U n T ll ln hs kf ld dt dc s)) := by
  refine zMet_of (ls := [some (.ref y), some (.int (nI (3 * t))), none]) rfl (by decide +kernel) rfl (fun h => by cases h) hX (Nat.le_of_ble_eq_true rfl) rfl ?_
  obtain ⟨F, g, kp, sv, bf, ip, sg, td0, h0, hf, -⟩ := id hM
  have hA := gA.1
  have hi : k < kC A := hAl.2.1 (by decide)
  have hr : kR A k = -1 := hAl.2.2.2.2.2.1 (by decide) (by decide)
  refine zr_aload_n dX10_carries_0 rfl ?_
  refine zr_getM (v := .ref (y + 11)) dX10_carries_1 fX10_46 h0 rfl ?_
  refine zr_iload_n dX10_carries_4 rfl ?_
  refine zr_iconst (v := 1) dX10_carries_5 (by decide) ?_
  refine zr_iadd dX10_carries_6 ?_
  refine zr_eqi (x' := nI ((3 * t) + 1)) (nI_add (3 * t) 1) ?_
  refine zr_iaload dX10_carries_7 ht (vp_in_nI (n := (3 * t) + 1) (by omega) (by omega)) ?_
  rw [nI_clamp (n := (3 * t) + 1) (by omega)]
  refine zr_eqi (x' := (nI k)) (e1) ?_
  refine zr_istore_n (ls' := [some (.ref y), some (.int (nI (3 * t))), some (.int ((nI k)))]) dX10_carries_8 rfl (by decide) rfl ?_
  refine zr_aload_n dX10_carries_9 rfl ?_
  refine zr_getM (v := .ref (y + 11)) dX10_carries_10 fX10_46 h0 rfl ?_
  refine zr_iload_n dX10_carries_13 rfl ?_
  refine zr_iaload dX10_carries_14 ht (vp_in_nI (n := 3 * t) (by omega) (by omega)) ?_
  rw [nI_clamp (n := 3 * t) (by omega)]
  refine zr_eqi (x' := 2) (e0) ?_
  refine zr_tableIn (off := 57) (tgt := 72) dX10_carries_15 (by decide) (by decide) (by decide) (by decide) ?_
  refine zr_aload_n dX10_carries_72 rfl ?_
  refine zr_iload_n dX10_carries_73 rfl ?_
  refine zr_callVi [] dX10_carries_74 vX10_281 (qX10_cutLast hX (i := k) hM gA hi hr (hAl.2.2.2.1 rfl) wU) h0 (by decide) (by decide) (by decide) rfl rfl (Nat.le_of_ble_eq_true rfl) (by decide) rfl (fun r1 s1 h_ => ?_)
  obtain ⟨-, F1, hM1⟩ := h_
  have eN : mN 1 m = m := if_neg (by decide)
  have eU : UN 1 A U = U := if_neg (by decide)
  rw [eN, eU] at hM1
  refine zr_ireturn dX10_carries_77 rfl (rfl) ?_
  exact ⟨_, rfl, F1, _, hM1⟩

set_option maxHeartbeats 400000 in
set_option maxRecDepth 100000 in
theorem qX10_carD2 {X : zX} (hX : X.1.stackTraces = false) {σ : zS} {y : Nat} {tm cd dn : Int32} {K : zDk} {A S : zDk} {m : Nat} {U : Nat → zDk} {n : Nat} {T : Nat → Int32} {ll : Nat} {ln : Nat → Int32} {hs kf ld dt dc : Int32} {td : Nat → Int32} {t k : Nat} {l : Int32} (hM : zMo y 1 tm cd dn K A S m U n T ll ln hs kf ld dt dc σ) (gA : zGd A) (ht : σ.1 (y + 11) = .inl (0, 93, .inl td)) (ht12 : t ≤ 12) (wU : ∀ t, t < m → zDw (U t)) (e0 : td (3 * t) = 2) (e1 : td (3 * t + 1) = nI k)  (hno : ¬ zOb A 2 k = 0) (hi : k < kC A) : zMet X mX10_carries yX10_carries 6 0 0 [.ref y, .int (nI (3 * t))] σ (zI (fun y_ s => zFr σ s (zMq y) ∧ ∃ cd1 dn1 ld1 dt1 dc1 : Int32, 0 < cd1 ∧ zMo y 1 tm cd1 dn1 K A S m U n T ll ln hs kf ld1 dt1 dc1 s ∧ (if dn1 = 0 then 8 else ld1) = zOb A 2 k)) := by
  refine zMet_of (ls := [some (.ref y), some (.int (nI (3 * t))), none]) rfl (by decide +kernel) rfl (fun h => by cases h) hX (Nat.le_of_ble_eq_true rfl) rfl ?_
  obtain ⟨F, g, kp, sv, bf, ip, sg, td0, h0, hf, -⟩ := id hM
  have hA := gA.1
  refine zr_aload_n dX10_carries_0 rfl ?_
  refine zr_getM (v := .ref (y + 11)) dX10_carries_1 fX10_46 h0 rfl ?_
  refine zr_iload_n dX10_carries_4 rfl ?_
  refine zr_iconst (v := 1) dX10_carries_5 (by decide) ?_
  refine zr_iadd dX10_carries_6 ?_
  refine zr_eqi (x' := nI ((3 * t) + 1)) (nI_add (3 * t) 1) ?_
  refine zr_iaload dX10_carries_7 ht (vp_in_nI (n := (3 * t) + 1) (by omega) (by omega)) ?_
  rw [nI_clamp (n := (3 * t) + 1) (by omega)]
  refine zr_eqi (x' := (nI k)) (e1) ?_
  refine zr_istore_n (ls' := [some (.ref y), some (.int (nI (3 * t))), some (.int ((nI k)))]) dX10_carries_8 rfl (by decide) rfl ?_
  refine zr_aload_n dX10_carries_9 rfl ?_
  refine zr_getM (v := .ref (y + 11)) dX10_carries_10 fX10_46 h0 rfl ?_
  refine zr_iload_n dX10_carries_13 rfl ?_
  refine zr_iaload dX10_carries_14 ht (vp_in_nI (n := 3 * t) (by omega) (by omega)) ?_
  rw [nI_clamp (n := 3 * t) (by omega)]
  refine zr_eqi (x' := 2) (e0) ?_
  refine zr_tableIn (off := 57) (tgt := 72) dX10_carries_15 (by decide) (by decide) (by decide) (by decide) ?_
  refine zr_aload_n dX10_carries_72 rfl ?_
  refine zr_iload_n dX10_carries_73 rfl ?_
  refine zr_callVi [] dX10_carries_74 vX10_281 (qX10_cutLastD hX (i := k) hM gA hi hno) h0 (by decide) (by decide) (by decide) rfl rfl (Nat.le_of_ble_eq_true rfl) (by decide) rfl (fun r1 s1 h_ => ?_)
  obtain ⟨-, F1, hM1⟩ := h_
  refine zr_ireturn dX10_carries_77 rfl (rfl) ?_
  exact ⟨_, rfl, F1, _, _, _, _, _, by decide, hM1, rfl⟩

set_option maxHeartbeats 400000 in
set_option maxRecDepth 100000 in
theorem qX10_carX2 {X : zX} (hX : X.1.stackTraces = false) {σ : zS} {y : Nat} {tm cd dn : Int32} {K : zDk} {A S : zDk} {m : Nat} {U : Nat → zDk} {n : Nat} {T : Nat → Int32} {ll : Nat} {ln : Nat → Int32} {hs kf ld dt dc : Int32} {td : Nat → Int32} {t k : Nat} {l : Int32} (hM : zMo y 1 tm cd dn K A S m U n T ll ln hs kf ld dt dc σ) (gA : zGd A) (ht : σ.1 (y + 11) = .inl (0, 93, .inl td)) (ht12 : t ≤ 12) (wU : ∀ t, t < m → zDw (U t)) (e0 : td (3 * t) = 2) (e1 : td (3 * t + 1) = nI k)  (hk10 : k < 10) (hnk : ¬ k < kC A) : zMet X mX10_carries yX10_carries 6 0 0 [.ref y, .int (nI (3 * t))] σ (zI (fun y_ s => zFr σ s (zMq y) ∧ ∃ cd1 dn1 ld1 dt1 dc1 : Int32, 0 < cd1 ∧ zMo y 1 tm cd1 dn1 K A S m U n T ll ln hs kf ld1 dt1 dc1 s ∧ (if dn1 = 0 then 8 else ld1) = zOb A 2 k)) := by
  refine zMet_of (ls := [some (.ref y), some (.int (nI (3 * t))), none]) rfl (by decide +kernel) rfl (fun h => by cases h) hX (Nat.le_of_ble_eq_true rfl) rfl ?_
  obtain ⟨F, g, kp, sv, bf, ip, sg, td0, h0, hf, -⟩ := id hM
  have hA := gA.1
  refine zr_aload_n dX10_carries_0 rfl ?_
  refine zr_getM (v := .ref (y + 11)) dX10_carries_1 fX10_46 h0 rfl ?_
  refine zr_iload_n dX10_carries_4 rfl ?_
  refine zr_iconst (v := 1) dX10_carries_5 (by decide) ?_
  refine zr_iadd dX10_carries_6 ?_
  refine zr_eqi (x' := nI ((3 * t) + 1)) (nI_add (3 * t) 1) ?_
  refine zr_iaload dX10_carries_7 ht (vp_in_nI (n := (3 * t) + 1) (by omega) (by omega)) ?_
  rw [nI_clamp (n := (3 * t) + 1) (by omega)]
  refine zr_eqi (x' := (nI k)) (e1) ?_
  refine zr_istore_n (ls' := [some (.ref y), some (.int (nI (3 * t))), some (.int ((nI k)))]) dX10_carries_8 rfl (by decide) rfl ?_
  refine zr_aload_n dX10_carries_9 rfl ?_
  refine zr_getM (v := .ref (y + 11)) dX10_carries_10 fX10_46 h0 rfl ?_
  refine zr_iload_n dX10_carries_13 rfl ?_
  refine zr_iaload dX10_carries_14 ht (vp_in_nI (n := 3 * t) (by omega) (by omega)) ?_
  rw [nI_clamp (n := 3 * t) (by omega)]
  refine zr_eqi (x' := 2) (e0) ?_
  refine zr_tableIn (off := 57) (tgt := 72) dX10_carries_15 (by decide) (by decide) (by decide) (by decide) ?_
  refine zr_aload_n dX10_carries_72 rfl ?_
  refine zr_iload_n dX10_carries_73 rfl ?_
  refine zr_callVi [] dX10_carries_74 vX10_281 (qX10_cutLastX hX (p := nI k) hM gA (zno_k hA.1 hk10 hnk)) h0 (by decide) (by decide) (by decide) rfl rfl (Nat.le_of_ble_eq_true rfl) (by decide) rfl (fun r1 s1 h_ => ?_)
  obtain ⟨-, F1, hM1⟩ := h_
  refine zr_ireturn dX10_carries_77 rfl (rfl) ?_
  exact ⟨_, rfl, F1, _, _, _, _, _, by decide, hM1, (zOb_8 (by decide) hnk).symm⟩

set_option maxHeartbeats 400000 in
set_option maxRecDepth 100000 in
theorem qX10_carY3 {X : zX} (hX : X.1.stackTraces = false) {σ : zS} {y : Nat} {tm cd dn : Int32} {K : zDk} {A S : zDk} {m : Nat} {U : Nat → zDk} {n : Nat} {T : Nat → Int32} {ll : Nat} {ln : Nat → Int32} {hs kf ld dt dc : Int32} {td : Nat → Int32} {t k : Nat} {l : Int32} (hM : zMo y 1 tm cd dn K A S m U n T ll ln hs kf ld dt dc σ) (gA : zGd A) (ht : σ.1 (y + 11) = .inl (0, 93, .inl td)) (ht12 : t ≤ 12) (wU : ∀ t, t < m → zDw (U t)) (e0 : td (3 * t) = 3) (e1 : td (3 * t + 1) = nI k)  (hAl : zAl A 3 k) : zMet X mX10_carries yX10_carries 6 0 0 [.ref y, .int (nI (3 * t))] σ (zI (fun y_ s => zFr σ s (zMq y) ∧ ∃ dn1, zMo y 1 tm 0 dn1 K (aWord A k (zRP (kL A k) (kN A k)).1 (zRP (kL A k) (kN A k)).2) S m U n T ll ln hs kf ld dt dc s)) := by
  refine zMet_of (ls := [some (.ref y), some (.int (nI (3 * t))), none]) rfl (by decide +kernel) rfl (fun h => by cases h) hX (Nat.le_of_ble_eq_true rfl) rfl ?_
  obtain ⟨F, g, kp, sv, bf, ip, sg, td0, h0, hf, -⟩ := id hM
  have hA := gA.1
  have hi : k < kC A := hAl.2.1 (by decide)
  have hr : kR A k = -1 := hAl.2.2.2.2.2.1 (by decide) (by decide)
  refine zr_aload_n dX10_carries_0 rfl ?_
  refine zr_getM (v := .ref (y + 11)) dX10_carries_1 fX10_46 h0 rfl ?_
  refine zr_iload_n dX10_carries_4 rfl ?_
  refine zr_iconst (v := 1) dX10_carries_5 (by decide) ?_
  refine zr_iadd dX10_carries_6 ?_
  refine zr_eqi (x' := nI ((3 * t) + 1)) (nI_add (3 * t) 1) ?_
  refine zr_iaload dX10_carries_7 ht (vp_in_nI (n := (3 * t) + 1) (by omega) (by omega)) ?_
  rw [nI_clamp (n := (3 * t) + 1) (by omega)]
  refine zr_eqi (x' := (nI k)) (e1) ?_
  refine zr_istore_n (ls' := [some (.ref y), some (.int (nI (3 * t))), some (.int ((nI k)))]) dX10_carries_8 rfl (by decide) rfl ?_
  refine zr_aload_n dX10_carries_9 rfl ?_
  refine zr_getM (v := .ref (y + 11)) dX10_carries_10 fX10_46 h0 rfl ?_
  refine zr_iload_n dX10_carries_13 rfl ?_
  refine zr_iaload dX10_carries_14 ht (vp_in_nI (n := 3 * t) (by omega) (by omega)) ?_
  rw [nI_clamp (n := 3 * t) (by omega)]
  refine zr_eqi (x' := 3) (e0) ?_
  refine zr_tableIn (off := 63) (tgt := 78) dX10_carries_15 (by decide) (by decide) (by decide) (by decide) ?_
  refine zr_aload_n dX10_carries_78 rfl ?_
  refine zr_iload_n dX10_carries_79 rfl ?_
  refine zr_callVi [] dX10_carries_80 vX10_284 (qX10_cancel hX (i := k) hM gA hi hr wU) h0 (by decide) (by decide) (by decide) rfl rfl (Nat.le_of_ble_eq_true rfl) (by decide) rfl (fun r1 s1 h_ => ?_)
  obtain ⟨-, F1, hM1⟩ := h_
  have eN : mN 1 m = m := if_neg (by decide)
  have eU : UN 1 A U = U := if_neg (by decide)
  rw [eN, eU] at hM1
  refine zr_ireturn dX10_carries_83 rfl (rfl) ?_
  exact ⟨_, rfl, F1, _, hM1⟩

set_option maxHeartbeats 400000 in
set_option maxRecDepth 100000 in
theorem qX10_carD3 {X : zX} (hX : X.1.stackTraces = false) {σ : zS} {y : Nat} {tm cd dn : Int32} {K : zDk} {A S : zDk} {m : Nat} {U : Nat → zDk} {n : Nat} {T : Nat → Int32} {ll : Nat} {ln : Nat → Int32} {hs kf ld dt dc : Int32} {td : Nat → Int32} {t k : Nat} {l : Int32} (hM : zMo y 1 tm cd dn K A S m U n T ll ln hs kf ld dt dc σ) (gA : zGd A) (ht : σ.1 (y + 11) = .inl (0, 93, .inl td)) (ht12 : t ≤ 12) (wU : ∀ t, t < m → zDw (U t)) (e0 : td (3 * t) = 3) (e1 : td (3 * t + 1) = nI k)  (hno : ¬ zOb A 3 k = 0) (hi : k < kC A) : zMet X mX10_carries yX10_carries 6 0 0 [.ref y, .int (nI (3 * t))] σ (zI (fun y_ s => zFr σ s (zMq y) ∧ ∃ cd1 dn1 ld1 dt1 dc1 : Int32, 0 < cd1 ∧ zMo y 1 tm cd1 dn1 K A S m U n T ll ln hs kf ld1 dt1 dc1 s ∧ (if dn1 = 0 then 8 else ld1) = zOb A 3 k)) := by
  refine zMet_of (ls := [some (.ref y), some (.int (nI (3 * t))), none]) rfl (by decide +kernel) rfl (fun h => by cases h) hX (Nat.le_of_ble_eq_true rfl) rfl ?_
  obtain ⟨F, g, kp, sv, bf, ip, sg, td0, h0, hf, -⟩ := id hM
  have hA := gA.1
  refine zr_aload_n dX10_carries_0 rfl ?_
  refine zr_getM (v := .ref (y + 11)) dX10_carries_1 fX10_46 h0 rfl ?_
  refine zr_iload_n dX10_carries_4 rfl ?_
  refine zr_iconst (v := 1) dX10_carries_5 (by decide) ?_
  refine zr_iadd dX10_carries_6 ?_
  refine zr_eqi (x' := nI ((3 * t) + 1)) (nI_add (3 * t) 1) ?_
  refine zr_iaload dX10_carries_7 ht (vp_in_nI (n := (3 * t) + 1) (by omega) (by omega)) ?_
  rw [nI_clamp (n := (3 * t) + 1) (by omega)]
  refine zr_eqi (x' := (nI k)) (e1) ?_
  refine zr_istore_n (ls' := [some (.ref y), some (.int (nI (3 * t))), some (.int ((nI k)))]) dX10_carries_8 rfl (by decide) rfl ?_
  refine zr_aload_n dX10_carries_9 rfl ?_
  refine zr_getM (v := .ref (y + 11)) dX10_carries_10 fX10_46 h0 rfl ?_
  refine zr_iload_n dX10_carries_13 rfl ?_
  refine zr_iaload dX10_carries_14 ht (vp_in_nI (n := 3 * t) (by omega) (by omega)) ?_
  rw [nI_clamp (n := 3 * t) (by omega)]
  refine zr_eqi (x' := 3) (e0) ?_
  refine zr_tableIn (off := 63) (tgt := 78) dX10_carries_15 (by decide) (by decide) (by decide) (by decide) ?_
  refine zr_aload_n dX10_carries_78 rfl ?_
  refine zr_iload_n dX10_carries_79 rfl ?_
  refine zr_callVi [] dX10_carries_80 vX10_284 (qX10_cancelD hX (i := k) hM gA hi hno) h0 (by decide) (by decide) (by decide) rfl rfl (Nat.le_of_ble_eq_true rfl) (by decide) rfl (fun r1 s1 h_ => ?_)
  obtain ⟨-, F1, hM1⟩ := h_
  refine zr_ireturn dX10_carries_83 rfl (rfl) ?_
  exact ⟨_, rfl, F1, _, _, _, _, _, by decide, hM1, rfl⟩

set_option maxHeartbeats 400000 in
set_option maxRecDepth 100000 in
theorem qX10_carX3 {X : zX} (hX : X.1.stackTraces = false) {σ : zS} {y : Nat} {tm cd dn : Int32} {K : zDk} {A S : zDk} {m : Nat} {U : Nat → zDk} {n : Nat} {T : Nat → Int32} {ll : Nat} {ln : Nat → Int32} {hs kf ld dt dc : Int32} {td : Nat → Int32} {t k : Nat} {l : Int32} (hM : zMo y 1 tm cd dn K A S m U n T ll ln hs kf ld dt dc σ) (gA : zGd A) (ht : σ.1 (y + 11) = .inl (0, 93, .inl td)) (ht12 : t ≤ 12) (wU : ∀ t, t < m → zDw (U t)) (e0 : td (3 * t) = 3) (e1 : td (3 * t + 1) = nI k)  (hk10 : k < 10) (hnk : ¬ k < kC A) : zMet X mX10_carries yX10_carries 6 0 0 [.ref y, .int (nI (3 * t))] σ (zI (fun y_ s => zFr σ s (zMq y) ∧ ∃ cd1 dn1 ld1 dt1 dc1 : Int32, 0 < cd1 ∧ zMo y 1 tm cd1 dn1 K A S m U n T ll ln hs kf ld1 dt1 dc1 s ∧ (if dn1 = 0 then 8 else ld1) = zOb A 3 k)) := by
  refine zMet_of (ls := [some (.ref y), some (.int (nI (3 * t))), none]) rfl (by decide +kernel) rfl (fun h => by cases h) hX (Nat.le_of_ble_eq_true rfl) rfl ?_
  obtain ⟨F, g, kp, sv, bf, ip, sg, td0, h0, hf, -⟩ := id hM
  have hA := gA.1
  refine zr_aload_n dX10_carries_0 rfl ?_
  refine zr_getM (v := .ref (y + 11)) dX10_carries_1 fX10_46 h0 rfl ?_
  refine zr_iload_n dX10_carries_4 rfl ?_
  refine zr_iconst (v := 1) dX10_carries_5 (by decide) ?_
  refine zr_iadd dX10_carries_6 ?_
  refine zr_eqi (x' := nI ((3 * t) + 1)) (nI_add (3 * t) 1) ?_
  refine zr_iaload dX10_carries_7 ht (vp_in_nI (n := (3 * t) + 1) (by omega) (by omega)) ?_
  rw [nI_clamp (n := (3 * t) + 1) (by omega)]
  refine zr_eqi (x' := (nI k)) (e1) ?_
  refine zr_istore_n (ls' := [some (.ref y), some (.int (nI (3 * t))), some (.int ((nI k)))]) dX10_carries_8 rfl (by decide) rfl ?_
  refine zr_aload_n dX10_carries_9 rfl ?_
  refine zr_getM (v := .ref (y + 11)) dX10_carries_10 fX10_46 h0 rfl ?_
  refine zr_iload_n dX10_carries_13 rfl ?_
  refine zr_iaload dX10_carries_14 ht (vp_in_nI (n := 3 * t) (by omega) (by omega)) ?_
  rw [nI_clamp (n := 3 * t) (by omega)]
  refine zr_eqi (x' := 3) (e0) ?_
  refine zr_tableIn (off := 63) (tgt := 78) dX10_carries_15 (by decide) (by decide) (by decide) (by decide) ?_
  refine zr_aload_n dX10_carries_78 rfl ?_
  refine zr_iload_n dX10_carries_79 rfl ?_
  refine zr_callVi [] dX10_carries_80 vX10_284 (qX10_cancelX hX (p := nI k) hM gA (zno_k hA.1 hk10 hnk)) h0 (by decide) (by decide) (by decide) rfl rfl (Nat.le_of_ble_eq_true rfl) (by decide) rfl (fun r1 s1 h_ => ?_)
  obtain ⟨-, F1, hM1⟩ := h_
  refine zr_ireturn dX10_carries_83 rfl (rfl) ?_
  exact ⟨_, rfl, F1, _, _, _, _, _, by decide, hM1, (zOb_8 (by decide) hnk).symm⟩

set_option maxHeartbeats 400000 in
set_option maxRecDepth 100000 in
theorem qX10_carY4 {X : zX} (hX : X.1.stackTraces = false) {σ : zS} {y : Nat} {tm cd dn : Int32} {K : zDk} {A S : zDk} {m : Nat} {U : Nat → zDk} {n : Nat} {T : Nat → Int32} {ll : Nat} {ln : Nat → Int32} {hs kf ld dt dc : Int32} {td : Nat → Int32} {t k : Nat} {l : Int32} (hM : zMo y 1 tm cd dn K A S m U n T ll ln hs kf ld dt dc σ) (gA : zGd A) (ht : σ.1 (y + 11) = .inl (0, 93, .inl td)) (ht12 : t ≤ 12) (wU : ∀ t, t < m → zDw (U t)) (e0 : td (3 * t) = 4) (e1 : td (3 * t + 1) = nI k)  (hAl : zAl A 4 k) : zMet X mX10_carries yX10_carries 6 0 0 [.ref y, .int (nI (3 * t))] σ (zI (fun y_ s => zFr σ s (zMq y) ∧ ∃ dn1, zMo y 1 tm 0 dn1 K (aRel A k) S m U n T ll ln hs kf ld dt dc s)) := by
  refine zMet_of (ls := [some (.ref y), some (.int (nI (3 * t))), none]) rfl (by decide +kernel) rfl (fun h => by cases h) hX (Nat.le_of_ble_eq_true rfl) rfl ?_
  obtain ⟨F, g, kp, sv, bf, ip, sg, td0, h0, hf, -⟩ := id hM
  have hA := gA.1
  have hi : k < kC A := hAl.2.1 (by decide)
  have hr : kR A k = -1 := hAl.2.2.2.2.2.1 (by decide) (by decide)
  obtain ⟨⟨q, W⟩, hO, hL⟩ := hAl.2.2.2.2.1 rfl
  have eR : aWord A k W.length (wv W) = aRel A k := by unfold aRel; rw [hO]
  refine zr_aload_n dX10_carries_0 rfl ?_
  refine zr_getM (v := .ref (y + 11)) dX10_carries_1 fX10_46 h0 rfl ?_
  refine zr_iload_n dX10_carries_4 rfl ?_
  refine zr_iconst (v := 1) dX10_carries_5 (by decide) ?_
  refine zr_iadd dX10_carries_6 ?_
  refine zr_eqi (x' := nI ((3 * t) + 1)) (nI_add (3 * t) 1) ?_
  refine zr_iaload dX10_carries_7 ht (vp_in_nI (n := (3 * t) + 1) (by omega) (by omega)) ?_
  rw [nI_clamp (n := (3 * t) + 1) (by omega)]
  refine zr_eqi (x' := (nI k)) (e1) ?_
  refine zr_istore_n (ls' := [some (.ref y), some (.int (nI (3 * t))), some (.int ((nI k)))]) dX10_carries_8 rfl (by decide) rfl ?_
  refine zr_aload_n dX10_carries_9 rfl ?_
  refine zr_getM (v := .ref (y + 11)) dX10_carries_10 fX10_46 h0 rfl ?_
  refine zr_iload_n dX10_carries_13 rfl ?_
  refine zr_iaload dX10_carries_14 ht (vp_in_nI (n := 3 * t) (by omega) (by omega)) ?_
  rw [nI_clamp (n := 3 * t) (by omega)]
  refine zr_eqi (x' := 4) (e0) ?_
  refine zr_tableIn (off := 69) (tgt := 84) dX10_carries_15 (by decide) (by decide) (by decide) (by decide) ?_
  refine zr_aload_n dX10_carries_84 rfl ?_
  refine zr_iload_n dX10_carries_85 rfl ?_
  refine zr_callVi [] dX10_carries_86 vX10_287 (qX10_relax hX (i := k) hM gA hi hr hO hL wU) h0 (by decide) (by decide) (by decide) rfl rfl (Nat.le_of_ble_eq_true rfl) (by decide) rfl (fun r1 s1 h_ => ?_)
  obtain ⟨-, F1, hM1⟩ := h_
  have eN : mN 1 m = m := if_neg (by decide)
  have eU : UN 1 A U = U := if_neg (by decide)
  rw [eN, eU] at hM1
  refine zr_ireturn dX10_carries_89 rfl (rfl) ?_
  rw [eR] at hM1
  exact ⟨_, rfl, F1, _, hM1⟩

set_option maxHeartbeats 400000 in
set_option maxRecDepth 100000 in
theorem qX10_carD4 {X : zX} (hX : X.1.stackTraces = false) {σ : zS} {y : Nat} {tm cd dn : Int32} {K : zDk} {A S : zDk} {m : Nat} {U : Nat → zDk} {n : Nat} {T : Nat → Int32} {ll : Nat} {ln : Nat → Int32} {hs kf ld dt dc : Int32} {td : Nat → Int32} {t k : Nat} {l : Int32} (hM : zMo y 1 tm cd dn K A S m U n T ll ln hs kf ld dt dc σ) (gA : zGd A) (ht : σ.1 (y + 11) = .inl (0, 93, .inl td)) (ht12 : t ≤ 12) (wU : ∀ t, t < m → zDw (U t)) (e0 : td (3 * t) = 4) (e1 : td (3 * t + 1) = nI k)  (hno : ¬ zOb A 4 k = 0) (hi : k < kC A) : zMet X mX10_carries yX10_carries 6 0 0 [.ref y, .int (nI (3 * t))] σ (zI (fun y_ s => zFr σ s (zMq y) ∧ ∃ cd1 dn1 ld1 dt1 dc1 : Int32, 0 < cd1 ∧ zMo y 1 tm cd1 dn1 K A S m U n T ll ln hs kf ld1 dt1 dc1 s ∧ (if dn1 = 0 then 8 else ld1) = zOb A 4 k)) := by
  refine zMet_of (ls := [some (.ref y), some (.int (nI (3 * t))), none]) rfl (by decide +kernel) rfl (fun h => by cases h) hX (Nat.le_of_ble_eq_true rfl) rfl ?_
  obtain ⟨F, g, kp, sv, bf, ip, sg, td0, h0, hf, -⟩ := id hM
  have hA := gA.1
  refine zr_aload_n dX10_carries_0 rfl ?_
  refine zr_getM (v := .ref (y + 11)) dX10_carries_1 fX10_46 h0 rfl ?_
  refine zr_iload_n dX10_carries_4 rfl ?_
  refine zr_iconst (v := 1) dX10_carries_5 (by decide) ?_
  refine zr_iadd dX10_carries_6 ?_
  refine zr_eqi (x' := nI ((3 * t) + 1)) (nI_add (3 * t) 1) ?_
  refine zr_iaload dX10_carries_7 ht (vp_in_nI (n := (3 * t) + 1) (by omega) (by omega)) ?_
  rw [nI_clamp (n := (3 * t) + 1) (by omega)]
  refine zr_eqi (x' := (nI k)) (e1) ?_
  refine zr_istore_n (ls' := [some (.ref y), some (.int (nI (3 * t))), some (.int ((nI k)))]) dX10_carries_8 rfl (by decide) rfl ?_
  refine zr_aload_n dX10_carries_9 rfl ?_
  refine zr_getM (v := .ref (y + 11)) dX10_carries_10 fX10_46 h0 rfl ?_
  refine zr_iload_n dX10_carries_13 rfl ?_
  refine zr_iaload dX10_carries_14 ht (vp_in_nI (n := 3 * t) (by omega) (by omega)) ?_
  rw [nI_clamp (n := 3 * t) (by omega)]
  refine zr_eqi (x' := 4) (e0) ?_
  refine zr_tableIn (off := 69) (tgt := 84) dX10_carries_15 (by decide) (by decide) (by decide) (by decide) ?_
  refine zr_aload_n dX10_carries_84 rfl ?_
  refine zr_iload_n dX10_carries_85 rfl ?_
  refine zr_callVi [] dX10_carries_86 vX10_287 (qX10_relaxD hX (i := k) hM gA hi hno) h0 (by decide) (by decide) (by decide) rfl rfl (Nat.le_of_ble_eq_true rfl) (by decide) rfl (fun r1 s1 h_ => ?_)
  obtain ⟨-, F1, hM1⟩ := h_
  refine zr_ireturn dX10_carries_89 rfl (rfl) ?_
  exact ⟨_, rfl, F1, _, _, _, _, _, by decide, hM1, rfl⟩

set_option maxHeartbeats 400000 in
set_option maxRecDepth 100000 in
theorem qX10_carX4 {X : zX} (hX : X.1.stackTraces = false) {σ : zS} {y : Nat} {tm cd dn : Int32} {K : zDk} {A S : zDk} {m : Nat} {U : Nat → zDk} {n : Nat} {T : Nat → Int32} {ll : Nat} {ln : Nat → Int32} {hs kf ld dt dc : Int32} {td : Nat → Int32} {t k : Nat} {l : Int32} (hM : zMo y 1 tm cd dn K A S m U n T ll ln hs kf ld dt dc σ) (gA : zGd A) (ht : σ.1 (y + 11) = .inl (0, 93, .inl td)) (ht12 : t ≤ 12) (wU : ∀ t, t < m → zDw (U t)) (e0 : td (3 * t) = 4) (e1 : td (3 * t + 1) = nI k)  (hk10 : k < 10) (hnk : ¬ k < kC A) : zMet X mX10_carries yX10_carries 6 0 0 [.ref y, .int (nI (3 * t))] σ (zI (fun y_ s => zFr σ s (zMq y) ∧ ∃ cd1 dn1 ld1 dt1 dc1 : Int32, 0 < cd1 ∧ zMo y 1 tm cd1 dn1 K A S m U n T ll ln hs kf ld1 dt1 dc1 s ∧ (if dn1 = 0 then 8 else ld1) = zOb A 4 k)) := by
  refine zMet_of (ls := [some (.ref y), some (.int (nI (3 * t))), none]) rfl (by decide +kernel) rfl (fun h => by cases h) hX (Nat.le_of_ble_eq_true rfl) rfl ?_
  obtain ⟨F, g, kp, sv, bf, ip, sg, td0, h0, hf, -⟩ := id hM
  have hA := gA.1
  refine zr_aload_n dX10_carries_0 rfl ?_
  refine zr_getM (v := .ref (y + 11)) dX10_carries_1 fX10_46 h0 rfl ?_
  refine zr_iload_n dX10_carries_4 rfl ?_
  refine zr_iconst (v := 1) dX10_carries_5 (by decide) ?_
  refine zr_iadd dX10_carries_6 ?_
  refine zr_eqi (x' := nI ((3 * t) + 1)) (nI_add (3 * t) 1) ?_
  refine zr_iaload dX10_carries_7 ht (vp_in_nI (n := (3 * t) + 1) (by omega) (by omega)) ?_
  rw [nI_clamp (n := (3 * t) + 1) (by omega)]
  refine zr_eqi (x' := (nI k)) (e1) ?_
  refine zr_istore_n (ls' := [some (.ref y), some (.int (nI (3 * t))), some (.int ((nI k)))]) dX10_carries_8 rfl (by decide) rfl ?_
  refine zr_aload_n dX10_carries_9 rfl ?_
  refine zr_getM (v := .ref (y + 11)) dX10_carries_10 fX10_46 h0 rfl ?_
  refine zr_iload_n dX10_carries_13 rfl ?_
  refine zr_iaload dX10_carries_14 ht (vp_in_nI (n := 3 * t) (by omega) (by omega)) ?_
  rw [nI_clamp (n := 3 * t) (by omega)]
  refine zr_eqi (x' := 4) (e0) ?_
  refine zr_tableIn (off := 69) (tgt := 84) dX10_carries_15 (by decide) (by decide) (by decide) (by decide) ?_
  refine zr_aload_n dX10_carries_84 rfl ?_
  refine zr_iload_n dX10_carries_85 rfl ?_
  refine zr_callVi [] dX10_carries_86 vX10_287 (qX10_relaxX hX (p := nI k) hM gA (zno_k hA.1 hk10 hnk)) h0 (by decide) (by decide) (by decide) rfl rfl (Nat.le_of_ble_eq_true rfl) (by decide) rfl (fun r1 s1 h_ => ?_)
  obtain ⟨-, F1, hM1⟩ := h_
  refine zr_ireturn dX10_carries_89 rfl (rfl) ?_
  exact ⟨_, rfl, F1, _, _, _, _, _, by decide, hM1, (zOb_8 (by decide) hnk).symm⟩

set_option maxHeartbeats 400000 in
set_option maxRecDepth 100000 in
theorem qX10_carY5 {X : zX} (hX : X.1.stackTraces = false) {σ : zS} {y : Nat} {tm cd dn : Int32} {K : zDk} {A S : zDk} {m : Nat} {U : Nat → zDk} {n : Nat} {T : Nat → Int32} {ll : Nat} {ln : Nat → Int32} {hs kf ld dt dc : Int32} {td : Nat → Int32} {t k : Nat} {l : Int32} (hM : zMo y 1 tm cd dn K A S m U n T ll ln hs kf ld dt dc σ) (gA : zGd A) (ht : σ.1 (y + 11) = .inl (0, 93, .inl td)) (ht12 : t ≤ 12) (wU : ∀ t, t < m → zDw (U t)) (e0 : td (3 * t) = 5) (e1 : td (3 * t + 1) = nI k)  (hAl : zAl A 5 k) : zMet X mX10_carries yX10_carries 6 0 0 [.ref y, .int (nI (3 * t))] σ (zI (fun y_ s => zFr σ s (zMq y) ∧ ∃ dn1, zMo y 1 tm 0 dn1 K (aVer A k) S m U n T ll ln hs kf ld dt dc s)) := by
  refine zMet_of (ls := [some (.ref y), some (.int (nI (3 * t))), none]) rfl (by decide +kernel) rfl (fun h => by cases h) hX (Nat.le_of_ble_eq_true rfl) rfl ?_
  obtain ⟨F, g, kp, sv, bf, ip, sg, td0, h0, hf, -⟩ := id hM
  have hA := gA.1
  have hi : k < kC A := hAl.2.1 (by decide)
  have hr : kR A k = -1 := hAl.2.2.2.2.2.1 (by decide) (by decide)
  refine zr_aload_n dX10_carries_0 rfl ?_
  refine zr_getM (v := .ref (y + 11)) dX10_carries_1 fX10_46 h0 rfl ?_
  refine zr_iload_n dX10_carries_4 rfl ?_
  refine zr_iconst (v := 1) dX10_carries_5 (by decide) ?_
  refine zr_iadd dX10_carries_6 ?_
  refine zr_eqi (x' := nI ((3 * t) + 1)) (nI_add (3 * t) 1) ?_
  refine zr_iaload dX10_carries_7 ht (vp_in_nI (n := (3 * t) + 1) (by omega) (by omega)) ?_
  rw [nI_clamp (n := (3 * t) + 1) (by omega)]
  refine zr_eqi (x' := (nI k)) (e1) ?_
  refine zr_istore_n (ls' := [some (.ref y), some (.int (nI (3 * t))), some (.int ((nI k)))]) dX10_carries_8 rfl (by decide) rfl ?_
  refine zr_aload_n dX10_carries_9 rfl ?_
  refine zr_getM (v := .ref (y + 11)) dX10_carries_10 fX10_46 h0 rfl ?_
  refine zr_iload_n dX10_carries_13 rfl ?_
  refine zr_iaload dX10_carries_14 ht (vp_in_nI (n := 3 * t) (by omega) (by omega)) ?_
  rw [nI_clamp (n := 3 * t) (by omega)]
  refine zr_eqi (x' := 5) (e0) ?_
  refine zr_tableIn (off := 75) (tgt := 90) dX10_carries_15 (by decide) (by decide) (by decide) (by decide) ?_
  refine zr_aload_n dX10_carries_90 rfl ?_
  refine zr_iload_n dX10_carries_91 rfl ?_
  refine zr_callVi [] dX10_carries_92 vX10_290 (qX10_decide hX (i := k) hM gA hi hr wU) h0 (by decide) (by decide) (by decide) rfl rfl (Nat.le_of_ble_eq_true rfl) (by decide) rfl (fun r1 s1 h_ => ?_)
  obtain ⟨-, F1, hM1⟩ := h_
  have eN : mN 1 m = m := if_neg (by decide)
  have eU : UN 1 A U = U := if_neg (by decide)
  rw [eN, eU] at hM1
  refine zr_if_eq (tgt := 102) dX10_carries_95 (by decide) (fun c_95 => ?_) (fun c_95 => ?_)
  · refine zr_iconst (v := 0) dX10_carries_102 (by decide) ?_
    refine zr_ireturn dX10_carries_103 rfl (rfl) ?_
    exact ⟨_, rfl, F1, _, hM1⟩
  · refine zr_iconst (v := 1) dX10_carries_98 (by decide) ?_
    refine zr_goto (tgt := 103) dX10_carries_99 (by decide) ?_
    refine zr_ireturn dX10_carries_103 rfl (rfl) ?_
    exact ⟨_, rfl, F1, _, hM1⟩

set_option maxHeartbeats 400000 in
set_option maxRecDepth 100000 in
theorem qX10_carD5 {X : zX} (hX : X.1.stackTraces = false) {σ : zS} {y : Nat} {tm cd dn : Int32} {K : zDk} {A S : zDk} {m : Nat} {U : Nat → zDk} {n : Nat} {T : Nat → Int32} {ll : Nat} {ln : Nat → Int32} {hs kf ld dt dc : Int32} {td : Nat → Int32} {t k : Nat} {l : Int32} (hM : zMo y 1 tm cd dn K A S m U n T ll ln hs kf ld dt dc σ) (gA : zGd A) (ht : σ.1 (y + 11) = .inl (0, 93, .inl td)) (ht12 : t ≤ 12) (wU : ∀ t, t < m → zDw (U t)) (e0 : td (3 * t) = 5) (e1 : td (3 * t + 1) = nI k)  (hno : ¬ zOb A 5 k = 0) (hi : k < kC A) : zMet X mX10_carries yX10_carries 6 0 0 [.ref y, .int (nI (3 * t))] σ (zI (fun y_ s => zFr σ s (zMq y) ∧ ∃ cd1 dn1 ld1 dt1 dc1 : Int32, 0 < cd1 ∧ zMo y 1 tm cd1 dn1 K A S m U n T ll ln hs kf ld1 dt1 dc1 s ∧ (if dn1 = 0 then 8 else ld1) = zOb A 5 k)) := by
  refine zMet_of (ls := [some (.ref y), some (.int (nI (3 * t))), none]) rfl (by decide +kernel) rfl (fun h => by cases h) hX (Nat.le_of_ble_eq_true rfl) rfl ?_
  obtain ⟨F, g, kp, sv, bf, ip, sg, td0, h0, hf, -⟩ := id hM
  have hA := gA.1
  refine zr_aload_n dX10_carries_0 rfl ?_
  refine zr_getM (v := .ref (y + 11)) dX10_carries_1 fX10_46 h0 rfl ?_
  refine zr_iload_n dX10_carries_4 rfl ?_
  refine zr_iconst (v := 1) dX10_carries_5 (by decide) ?_
  refine zr_iadd dX10_carries_6 ?_
  refine zr_eqi (x' := nI ((3 * t) + 1)) (nI_add (3 * t) 1) ?_
  refine zr_iaload dX10_carries_7 ht (vp_in_nI (n := (3 * t) + 1) (by omega) (by omega)) ?_
  rw [nI_clamp (n := (3 * t) + 1) (by omega)]
  refine zr_eqi (x' := (nI k)) (e1) ?_
  refine zr_istore_n (ls' := [some (.ref y), some (.int (nI (3 * t))), some (.int ((nI k)))]) dX10_carries_8 rfl (by decide) rfl ?_
  refine zr_aload_n dX10_carries_9 rfl ?_
  refine zr_getM (v := .ref (y + 11)) dX10_carries_10 fX10_46 h0 rfl ?_
  refine zr_iload_n dX10_carries_13 rfl ?_
  refine zr_iaload dX10_carries_14 ht (vp_in_nI (n := 3 * t) (by omega) (by omega)) ?_
  rw [nI_clamp (n := 3 * t) (by omega)]
  refine zr_eqi (x' := 5) (e0) ?_
  refine zr_tableIn (off := 75) (tgt := 90) dX10_carries_15 (by decide) (by decide) (by decide) (by decide) ?_
  refine zr_aload_n dX10_carries_90 rfl ?_
  refine zr_iload_n dX10_carries_91 rfl ?_
  refine zr_callVi [] dX10_carries_92 vX10_290 (qX10_decideD hX (i := k) hM gA hi hno) h0 (by decide) (by decide) (by decide) rfl rfl (Nat.le_of_ble_eq_true rfl) (by decide) rfl (fun r1 s1 h_ => ?_)
  obtain ⟨-, F1, hM1⟩ := h_
  refine zr_if_eq (tgt := 102) dX10_carries_95 (by decide) (fun c_95 => ?_) (fun c_95 => ?_)
  · refine zr_iconst (v := 0) dX10_carries_102 (by decide) ?_
    refine zr_ireturn dX10_carries_103 rfl (rfl) ?_
    exact ⟨_, rfl, F1, _, _, _, _, _, by decide, hM1, rfl⟩
  · refine zr_iconst (v := 1) dX10_carries_98 (by decide) ?_
    refine zr_goto (tgt := 103) dX10_carries_99 (by decide) ?_
    refine zr_ireturn dX10_carries_103 rfl (rfl) ?_
    exact ⟨_, rfl, F1, _, _, _, _, _, by decide, hM1, rfl⟩

set_option maxHeartbeats 400000 in
set_option maxRecDepth 100000 in
theorem qX10_carX5 {X : zX} (hX : X.1.stackTraces = false) {σ : zS} {y : Nat} {tm cd dn : Int32} {K : zDk} {A S : zDk} {m : Nat} {U : Nat → zDk} {n : Nat} {T : Nat → Int32} {ll : Nat} {ln : Nat → Int32} {hs kf ld dt dc : Int32} {td : Nat → Int32} {t k : Nat} {l : Int32} (hM : zMo y 1 tm cd dn K A S m U n T ll ln hs kf ld dt dc σ) (gA : zGd A) (ht : σ.1 (y + 11) = .inl (0, 93, .inl td)) (ht12 : t ≤ 12) (wU : ∀ t, t < m → zDw (U t)) (e0 : td (3 * t) = 5) (e1 : td (3 * t + 1) = nI k)  (hk10 : k < 10) (hnk : ¬ k < kC A) : zMet X mX10_carries yX10_carries 6 0 0 [.ref y, .int (nI (3 * t))] σ (zI (fun y_ s => zFr σ s (zMq y) ∧ ∃ cd1 dn1 ld1 dt1 dc1 : Int32, 0 < cd1 ∧ zMo y 1 tm cd1 dn1 K A S m U n T ll ln hs kf ld1 dt1 dc1 s ∧ (if dn1 = 0 then 8 else ld1) = zOb A 5 k)) := by
  refine zMet_of (ls := [some (.ref y), some (.int (nI (3 * t))), none]) rfl (by decide +kernel) rfl (fun h => by cases h) hX (Nat.le_of_ble_eq_true rfl) rfl ?_
  obtain ⟨F, g, kp, sv, bf, ip, sg, td0, h0, hf, -⟩ := id hM
  have hA := gA.1
  refine zr_aload_n dX10_carries_0 rfl ?_
  refine zr_getM (v := .ref (y + 11)) dX10_carries_1 fX10_46 h0 rfl ?_
  refine zr_iload_n dX10_carries_4 rfl ?_
  refine zr_iconst (v := 1) dX10_carries_5 (by decide) ?_
  refine zr_iadd dX10_carries_6 ?_
  refine zr_eqi (x' := nI ((3 * t) + 1)) (nI_add (3 * t) 1) ?_
  refine zr_iaload dX10_carries_7 ht (vp_in_nI (n := (3 * t) + 1) (by omega) (by omega)) ?_
  rw [nI_clamp (n := (3 * t) + 1) (by omega)]
  refine zr_eqi (x' := (nI k)) (e1) ?_
  refine zr_istore_n (ls' := [some (.ref y), some (.int (nI (3 * t))), some (.int ((nI k)))]) dX10_carries_8 rfl (by decide) rfl ?_
  refine zr_aload_n dX10_carries_9 rfl ?_
  refine zr_getM (v := .ref (y + 11)) dX10_carries_10 fX10_46 h0 rfl ?_
  refine zr_iload_n dX10_carries_13 rfl ?_
  refine zr_iaload dX10_carries_14 ht (vp_in_nI (n := 3 * t) (by omega) (by omega)) ?_
  rw [nI_clamp (n := 3 * t) (by omega)]
  refine zr_eqi (x' := 5) (e0) ?_
  refine zr_tableIn (off := 75) (tgt := 90) dX10_carries_15 (by decide) (by decide) (by decide) (by decide) ?_
  refine zr_aload_n dX10_carries_90 rfl ?_
  refine zr_iload_n dX10_carries_91 rfl ?_
  refine zr_callVi [] dX10_carries_92 vX10_290 (qX10_decideX hX (p := nI k) hM gA (zno_k hA.1 hk10 hnk)) h0 (by decide) (by decide) (by decide) rfl rfl (Nat.le_of_ble_eq_true rfl) (by decide) rfl (fun r1 s1 h_ => ?_)
  obtain ⟨-, F1, hM1⟩ := h_
  refine zr_if_eq (tgt := 102) dX10_carries_95 (by decide) (fun c_95 => ?_) (fun c_95 => ?_)
  · refine zr_iconst (v := 0) dX10_carries_102 (by decide) ?_
    refine zr_ireturn dX10_carries_103 rfl (rfl) ?_
    exact ⟨_, rfl, F1, _, _, _, _, _, by decide, hM1, (zOb_8 (by decide) hnk).symm⟩
  · refine zr_iconst (v := 1) dX10_carries_98 (by decide) ?_
    refine zr_goto (tgt := 103) dX10_carries_99 (by decide) ?_
    refine zr_ireturn dX10_carries_103 rfl (rfl) ?_
    exact ⟨_, rfl, F1, _, _, _, _, _, by decide, hM1, (zOb_8 (by decide) hnk).symm⟩

set_option maxHeartbeats 400000 in
set_option maxRecDepth 100000 in
theorem qX10_carY6 {X : zX} (hX : X.1.stackTraces = false) {σ : zS} {y : Nat} {tm cd dn : Int32} {K : zDk} {A S : zDk} {m : Nat} {U : Nat → zDk} {n : Nat} {T : Nat → Int32} {ll : Nat} {ln : Nat → Int32} {hs kf ld dt dc : Int32} {td : Nat → Int32} {t k : Nat} {l : Int32} (hM : zMo y 1 tm cd dn K A S m U n T ll ln hs kf ld dt dc σ) (gA : zGd A) (ht : σ.1 (y + 11) = .inl (0, 93, .inl td)) (ht12 : t ≤ 12) (wU : ∀ t, t < m → zDw (U t)) (e0 : td (3 * t) = 6) (e1 : td (3 * t + 1) = nI k)  (hAl : zAl A 6 k) : zMet X mX10_carries yX10_carries 6 0 0 [.ref y, .int (nI (3 * t))] σ (zI (fun y_ s => zFr σ s (zMq y) ∧ ∃ dn1, zMo y 1 tm 0 dn1 K (aRev A (kR A k).toNatClampNeg) S m U n T ll ln hs kf ld dt dc s)) := by
  refine zMet_of (ls := [some (.ref y), some (.int (nI (3 * t))), none]) rfl (by decide +kernel) rfl (fun h => by cases h) hX (Nat.le_of_ble_eq_true rfl) rfl ?_
  obtain ⟨F, g, kp, sv, bf, ip, sg, td0, h0, hf, -⟩ := id hM
  have hA := gA.1
  have hi : k < kC A := hAl.2.1 (by decide)
  obtain ⟨p, hp, hR⟩ := kR_at gA hi (hAl.2.2.2.2.2.2 rfl).1
  have hP8 := hA.2.1
  have hk := (hAl.2.2.2.2.2.2 rfl).2
  have eP : aRev A (kR A k).toNatClampNeg = aRev A p := by rw [hR, nI_clamp (by omega)]
  rw [hR, nI_clamp (by omega)] at hk
  refine zr_aload_n dX10_carries_0 rfl ?_
  refine zr_getM (v := .ref (y + 11)) dX10_carries_1 fX10_46 h0 rfl ?_
  refine zr_iload_n dX10_carries_4 rfl ?_
  refine zr_iconst (v := 1) dX10_carries_5 (by decide) ?_
  refine zr_iadd dX10_carries_6 ?_
  refine zr_eqi (x' := nI ((3 * t) + 1)) (nI_add (3 * t) 1) ?_
  refine zr_iaload dX10_carries_7 ht (vp_in_nI (n := (3 * t) + 1) (by omega) (by omega)) ?_
  rw [nI_clamp (n := (3 * t) + 1) (by omega)]
  refine zr_eqi (x' := (nI k)) (e1) ?_
  refine zr_istore_n (ls' := [some (.ref y), some (.int (nI (3 * t))), some (.int ((nI k)))]) dX10_carries_8 rfl (by decide) rfl ?_
  refine zr_aload_n dX10_carries_9 rfl ?_
  refine zr_getM (v := .ref (y + 11)) dX10_carries_10 fX10_46 h0 rfl ?_
  refine zr_iload_n dX10_carries_13 rfl ?_
  refine zr_iaload dX10_carries_14 ht (vp_in_nI (n := 3 * t) (by omega) (by omega)) ?_
  rw [nI_clamp (n := 3 * t) (by omega)]
  refine zr_eqi (x' := 6) (e0) ?_
  refine zr_tableOut (tgt := 104) dX10_carries_15 (by decide) (by decide) ?_
  refine zr_aload_n dX10_carries_104 rfl ?_
  refine zr_iload_n dX10_carries_105 rfl ?_
  refine zr_callVi [] dX10_carries_106 vX10_293 (qX10_appeal hX (i := k) hM gA hi hp hR hk wU) h0 (by decide) (by decide) (by decide) rfl rfl (Nat.le_of_ble_eq_true rfl) (by decide) rfl (fun r1 s1 h_ => ?_)
  obtain ⟨-, F1, hM1⟩ := h_
  have eN : mN 1 m = m := if_neg (by decide)
  have eU : UN 1 A U = U := if_neg (by decide)
  rw [eN, eU] at hM1
  refine zr_ireturn dX10_carries_109 rfl (rfl) ?_
  rw [← eP] at hM1
  exact ⟨_, rfl, F1, _, hM1⟩

set_option maxHeartbeats 400000 in
set_option maxRecDepth 100000 in
theorem qX10_carD6 {X : zX} (hX : X.1.stackTraces = false) {σ : zS} {y : Nat} {tm cd dn : Int32} {K : zDk} {A S : zDk} {m : Nat} {U : Nat → zDk} {n : Nat} {T : Nat → Int32} {ll : Nat} {ln : Nat → Int32} {hs kf ld dt dc : Int32} {td : Nat → Int32} {t k : Nat} {l : Int32} (hM : zMo y 1 tm cd dn K A S m U n T ll ln hs kf ld dt dc σ) (gA : zGd A) (ht : σ.1 (y + 11) = .inl (0, 93, .inl td)) (ht12 : t ≤ 12) (wU : ∀ t, t < m → zDw (U t)) (e0 : td (3 * t) = 6) (e1 : td (3 * t + 1) = nI k)  (hno : ¬ zOb A 6 k = 0) (hi : k < kC A) : zMet X mX10_carries yX10_carries 6 0 0 [.ref y, .int (nI (3 * t))] σ (zI (fun y_ s => zFr σ s (zMq y) ∧ ∃ cd1 dn1 ld1 dt1 dc1 : Int32, 0 < cd1 ∧ zMo y 1 tm cd1 dn1 K A S m U n T ll ln hs kf ld1 dt1 dc1 s ∧ (if dn1 = 0 then 8 else ld1) = zOb A 6 k)) := by
  refine zMet_of (ls := [some (.ref y), some (.int (nI (3 * t))), none]) rfl (by decide +kernel) rfl (fun h => by cases h) hX (Nat.le_of_ble_eq_true rfl) rfl ?_
  obtain ⟨F, g, kp, sv, bf, ip, sg, td0, h0, hf, -⟩ := id hM
  have hA := gA.1
  refine zr_aload_n dX10_carries_0 rfl ?_
  refine zr_getM (v := .ref (y + 11)) dX10_carries_1 fX10_46 h0 rfl ?_
  refine zr_iload_n dX10_carries_4 rfl ?_
  refine zr_iconst (v := 1) dX10_carries_5 (by decide) ?_
  refine zr_iadd dX10_carries_6 ?_
  refine zr_eqi (x' := nI ((3 * t) + 1)) (nI_add (3 * t) 1) ?_
  refine zr_iaload dX10_carries_7 ht (vp_in_nI (n := (3 * t) + 1) (by omega) (by omega)) ?_
  rw [nI_clamp (n := (3 * t) + 1) (by omega)]
  refine zr_eqi (x' := (nI k)) (e1) ?_
  refine zr_istore_n (ls' := [some (.ref y), some (.int (nI (3 * t))), some (.int ((nI k)))]) dX10_carries_8 rfl (by decide) rfl ?_
  refine zr_aload_n dX10_carries_9 rfl ?_
  refine zr_getM (v := .ref (y + 11)) dX10_carries_10 fX10_46 h0 rfl ?_
  refine zr_iload_n dX10_carries_13 rfl ?_
  refine zr_iaload dX10_carries_14 ht (vp_in_nI (n := 3 * t) (by omega) (by omega)) ?_
  rw [nI_clamp (n := 3 * t) (by omega)]
  refine zr_eqi (x' := 6) (e0) ?_
  refine zr_tableOut (tgt := 104) dX10_carries_15 (by decide) (by decide) ?_
  refine zr_aload_n dX10_carries_104 rfl ?_
  refine zr_iload_n dX10_carries_105 rfl ?_
  refine zr_callVi [] dX10_carries_106 vX10_293 (qX10_appealD hX (i := k) hM gA hi hno) h0 (by decide) (by decide) (by decide) rfl rfl (Nat.le_of_ble_eq_true rfl) (by decide) rfl (fun r1 s1 h_ => ?_)
  obtain ⟨-, F1, hM1⟩ := h_
  refine zr_ireturn dX10_carries_109 rfl (rfl) ?_
  exact ⟨_, rfl, F1, _, _, _, _, _, by decide, hM1, rfl⟩

set_option maxHeartbeats 400000 in
set_option maxRecDepth 100000 in
theorem qX10_carX6 {X : zX} (hX : X.1.stackTraces = false) {σ : zS} {y : Nat} {tm cd dn : Int32} {K : zDk} {A S : zDk} {m : Nat} {U : Nat → zDk} {n : Nat} {T : Nat → Int32} {ll : Nat} {ln : Nat → Int32} {hs kf ld dt dc : Int32} {td : Nat → Int32} {t k : Nat} {l : Int32} (hM : zMo y 1 tm cd dn K A S m U n T ll ln hs kf ld dt dc σ) (gA : zGd A) (ht : σ.1 (y + 11) = .inl (0, 93, .inl td)) (ht12 : t ≤ 12) (wU : ∀ t, t < m → zDw (U t)) (e0 : td (3 * t) = 6) (e1 : td (3 * t + 1) = nI k)  (hk10 : k < 10) (hnk : ¬ k < kC A) : zMet X mX10_carries yX10_carries 6 0 0 [.ref y, .int (nI (3 * t))] σ (zI (fun y_ s => zFr σ s (zMq y) ∧ ∃ cd1 dn1 ld1 dt1 dc1 : Int32, 0 < cd1 ∧ zMo y 1 tm cd1 dn1 K A S m U n T ll ln hs kf ld1 dt1 dc1 s ∧ (if dn1 = 0 then 8 else ld1) = zOb A 6 k)) := by
  refine zMet_of (ls := [some (.ref y), some (.int (nI (3 * t))), none]) rfl (by decide +kernel) rfl (fun h => by cases h) hX (Nat.le_of_ble_eq_true rfl) rfl ?_
  obtain ⟨F, g, kp, sv, bf, ip, sg, td0, h0, hf, -⟩ := id hM
  have hA := gA.1
  refine zr_aload_n dX10_carries_0 rfl ?_
  refine zr_getM (v := .ref (y + 11)) dX10_carries_1 fX10_46 h0 rfl ?_
  refine zr_iload_n dX10_carries_4 rfl ?_
  refine zr_iconst (v := 1) dX10_carries_5 (by decide) ?_
  refine zr_iadd dX10_carries_6 ?_
  refine zr_eqi (x' := nI ((3 * t) + 1)) (nI_add (3 * t) 1) ?_
  refine zr_iaload dX10_carries_7 ht (vp_in_nI (n := (3 * t) + 1) (by omega) (by omega)) ?_
  rw [nI_clamp (n := (3 * t) + 1) (by omega)]
  refine zr_eqi (x' := (nI k)) (e1) ?_
  refine zr_istore_n (ls' := [some (.ref y), some (.int (nI (3 * t))), some (.int ((nI k)))]) dX10_carries_8 rfl (by decide) rfl ?_
  refine zr_aload_n dX10_carries_9 rfl ?_
  refine zr_getM (v := .ref (y + 11)) dX10_carries_10 fX10_46 h0 rfl ?_
  refine zr_iload_n dX10_carries_13 rfl ?_
  refine zr_iaload dX10_carries_14 ht (vp_in_nI (n := 3 * t) (by omega) (by omega)) ?_
  rw [nI_clamp (n := 3 * t) (by omega)]
  refine zr_eqi (x' := 6) (e0) ?_
  refine zr_tableOut (tgt := 104) dX10_carries_15 (by decide) (by decide) ?_
  refine zr_aload_n dX10_carries_104 rfl ?_
  refine zr_iload_n dX10_carries_105 rfl ?_
  refine zr_callVi [] dX10_carries_106 vX10_293 (qX10_appealX hX (p := nI k) hM gA (zno_k hA.1 hk10 hnk)) h0 (by decide) (by decide) (by decide) rfl rfl (Nat.le_of_ble_eq_true rfl) (by decide) rfl (fun r1 s1 h_ => ?_)
  obtain ⟨-, F1, hM1⟩ := h_
  refine zr_ireturn dX10_carries_109 rfl (rfl) ?_
  exact ⟨_, rfl, F1, _, _, _, _, _, by decide, hM1, (zOb_8 (by decide) hnk).symm⟩

theorem qX10_carriesY {X : zX} (hX : X.1.stackTraces = false) {σ : zS} {y : Nat} {tm cd dn : Int32} {K : zDk} {A S : zDk} {m : Nat} {U : Nat → zDk} {n : Nat} {T : Nat → Int32} {ll : Nat} {ln : Nat → Int32} {hs kf ld dt dc : Int32} {td : Nat → Int32} {t k : Nat} {l : Int32} {c : Nat} (hM : zMo y 1 tm cd dn K A S m U n T ll ln hs kf ld dt dc σ) (gA : zGd A) (ht : σ.1 (y + 11) = .inl (0, 93, .inl td)) (ht12 : t ≤ 12) (wU : ∀ t, t < m → zDw (U t)) (hT : zTl td t (c, k, l)) (hc : zLok (c, k, l)) (hob : zOb A c k = 0) : zMet X mX10_carries yX10_carries 6 0 0 [.ref y, .int (nI (3 * t))] σ (zI (fun y_ s => zFr σ s (zMq y) ∧ ∃ dn1, zMo y 1 tm 0 dn1 K (aCmd A c k l) S m U n T ll ln hs kf ld dt dc s)) := by
  have hc7 : c < 7 := hc.1
  have hAl := zOb_ok hob hc7
  have hAl0 : zAl A 0 k → zAl A 0 0 := fun q => ⟨q.1, fun z => absurd z (by decide), fun z => absurd z (by decide), fun z => absurd z (by decide), fun z => absurd z (by decide), fun z => absurd z (by decide), fun z => absurd z (by decide)⟩
  obtain rfl | rfl | rfl | rfl | rfl | rfl | rfl : c = 0 ∨ c = 1 ∨ c = 2 ∨ c = 3 ∨ c = 4 ∨ c = 5 ∨ c = 6 := by omega
  · exact qX10_carY0 hX (k := k) (l := l) hM gA ht ht12 wU hT.1 (hAl0 hAl)
  · exact qX10_carY1 hX (k := k) (l := l) hM gA ht ht12 wU hT.1 (hT.2.1 (show ¬ (1 : Nat) = 0 from by decide)) (hT.2.2 rfl).1 (hT.2.2 rfl).2 hAl
  · exact qX10_carY2 hX (k := k) (l := l) hM gA ht ht12 wU hT.1 (hT.2.1 (show ¬ (2 : Nat) = 0 from by decide)) hAl
  · exact qX10_carY3 hX (k := k) (l := l) hM gA ht ht12 wU hT.1 (hT.2.1 (show ¬ (3 : Nat) = 0 from by decide)) hAl
  · exact qX10_carY4 hX (k := k) (l := l) hM gA ht ht12 wU hT.1 (hT.2.1 (show ¬ (4 : Nat) = 0 from by decide)) hAl
  · exact qX10_carY5 hX (k := k) (l := l) hM gA ht ht12 wU hT.1 (hT.2.1 (show ¬ (5 : Nat) = 0 from by decide)) hAl
  · exact qX10_carY6 hX (k := k) (l := l) hM gA ht ht12 wU hT.1 (hT.2.1 (show ¬ (6 : Nat) = 0 from by decide)) hAl
theorem qX10_carriesN {X : zX} (hX : X.1.stackTraces = false) {σ : zS} {y : Nat} {tm cd dn : Int32} {K : zDk} {A S : zDk} {m : Nat} {U : Nat → zDk} {n : Nat} {T : Nat → Int32} {ll : Nat} {ln : Nat → Int32} {hs kf ld dt dc : Int32} {td : Nat → Int32} {t k : Nat} {l : Int32} {c : Nat} (hM : zMo y 1 tm cd dn K A S m U n T ll ln hs kf ld dt dc σ) (gA : zGd A) (ht : σ.1 (y + 11) = .inl (0, 93, .inl td)) (ht12 : t ≤ 12) (wU : ∀ t, t < m → zDw (U t)) (hT : zTl td t (c, k, l)) (hc : zLok (c, k, l)) (hno : ¬ zOb A c k = 0) : zMet X mX10_carries yX10_carries 6 0 0 [.ref y, .int (nI (3 * t))] σ (zI (fun y_ s => zFr σ s (zMq y) ∧ ∃ cd1 dn1 ld1 dt1 dc1 : Int32, 0 < cd1 ∧ zMo y 1 tm cd1 dn1 K A S m U n T ll ln hs kf ld1 dt1 dc1 s ∧ (if dn1 = 0 then 8 else ld1) = zOb A c k)) := by
  have hc7 : c < 7 := hc.1
  obtain rfl | rfl | rfl | rfl | rfl | rfl | rfl : c = 0 ∨ c = 1 ∨ c = 2 ∨ c = 3 ∨ c = 4 ∨ c = 5 ∨ c = 6 := by omega
  · exact qX10_carD0 hX (k := k) (l := l) hM gA ht ht12 wU hT.1 hno
  · by_cases hk : k < kC A
    · exact qX10_carD1 hX (k := k) (l := l) hM gA ht ht12 wU hT.1 (hT.2.1 (show ¬ (1 : Nat) = 0 from by decide)) (hT.2.2 rfl).1 (hT.2.2 rfl).2 hno hk
    · exact qX10_carX1 hX (k := k) (l := l) hM gA ht ht12 wU hT.1 (hT.2.1 (show ¬ (1 : Nat) = 0 from by decide)) (hT.2.2 rfl).1 (hT.2.2 rfl).2 hc.2.1 hk
  · by_cases hk : k < kC A
    · exact qX10_carD2 hX (k := k) (l := l) hM gA ht ht12 wU hT.1 (hT.2.1 (show ¬ (2 : Nat) = 0 from by decide)) hno hk
    · exact qX10_carX2 hX (k := k) (l := l) hM gA ht ht12 wU hT.1 (hT.2.1 (show ¬ (2 : Nat) = 0 from by decide)) hc.2.1 hk
  · by_cases hk : k < kC A
    · exact qX10_carD3 hX (k := k) (l := l) hM gA ht ht12 wU hT.1 (hT.2.1 (show ¬ (3 : Nat) = 0 from by decide)) hno hk
    · exact qX10_carX3 hX (k := k) (l := l) hM gA ht ht12 wU hT.1 (hT.2.1 (show ¬ (3 : Nat) = 0 from by decide)) hc.2.1 hk
  · by_cases hk : k < kC A
    · exact qX10_carD4 hX (k := k) (l := l) hM gA ht ht12 wU hT.1 (hT.2.1 (show ¬ (4 : Nat) = 0 from by decide)) hno hk
    · exact qX10_carX4 hX (k := k) (l := l) hM gA ht ht12 wU hT.1 (hT.2.1 (show ¬ (4 : Nat) = 0 from by decide)) hc.2.1 hk
  · by_cases hk : k < kC A
    · exact qX10_carD5 hX (k := k) (l := l) hM gA ht ht12 wU hT.1 (hT.2.1 (show ¬ (5 : Nat) = 0 from by decide)) hno hk
    · exact qX10_carX5 hX (k := k) (l := l) hM gA ht ht12 wU hT.1 (hT.2.1 (show ¬ (5 : Nat) = 0 from by decide)) hc.2.1 hk
  · by_cases hk : k < kC A
    · exact qX10_carD6 hX (k := k) (l := l) hM gA ht ht12 wU hT.1 (hT.2.1 (show ¬ (6 : Nat) = 0 from by decide)) hno hk
    · exact qX10_carX6 hX (k := k) (l := l) hM gA ht ht12 wU hT.1 (hT.2.1 (show ¬ (6 : Nat) = 0 from by decide)) hc.2.1 hk
