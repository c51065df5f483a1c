theorem zCt_cg {P Q : Nat → Bool} : ∀ {n : Nat}, (∀ i, i < n → P i = Q i) → zCt P n = zCt Q n
  | 0, _ => rfl
  | n + 1, h => by simp only [zCt]; rw [zCt_cg (n := n) (fun i hi => h i (by omega)), h n (by omega)]
theorem zvd12 (A : zDk) (i : Nat) : (1 ≤ zvd A i ∧ zvd A i ≤ 2) ↔ ¬ kR A i = -1 := by
  rw [← zvd0]
  rcases zvd_3 A i with e | e | e <;> rw [e] <;> decide
theorem zvd11 (A : zDk) (i : Nat) : (1 ≤ zvd A i ∧ zvd A i ≤ 1) ↔ ¬ zvt A i = 0 := by
  rw [← zvd1]
  rcases zvd_3 A i with e | e | e <;> rw [e] <;> decide
theorem zvd22 (A : zDk) (i : Nat) : (2 ≤ zvd A i ∧ zvd A i ≤ 2) ↔ (¬ kR A i = -1 ∧ zvt A i = 0) := by
  have a := zvd0 A i
  have b := zvd1 A i
  rcases zvd_3 A i with e | e | e
  · rw [e] at a ⊢; exact ⟨fun q => absurd q.1 (by decide), fun q => absurd (a.mp rfl) q.1⟩
  · rw [e] at b ⊢; exact ⟨fun q => absurd q.1 (by decide), fun q => absurd q.2 (b.mp rfl)⟩
  · rw [e] at a b ⊢
    exact ⟨fun _ => ⟨fun q => absurd (a.mpr q) (by decide), Classical.not_not.mp (fun q => absurd (b.mpr q) (by decide))⟩, fun _ => by decide⟩
theorem zw12 (A : zDk) : zCt (fun t => decide (1 ≤ zvd A t ∧ zvd A t ≤ 2)) (kC A) = zCt (fun i => decide (¬ kR A i = -1)) (kC A) := zCt_cg (fun i _ => decide_eq_decide.mpr (zvd12 A i))
theorem zw11 (A : zDk) : zCt (fun t => decide (1 ≤ zvd A t ∧ zvd A t ≤ 1)) (kC A) = zCt (fun i => decide (¬ zvt A i = 0)) (kC A) := zCt_cg (fun i _ => decide_eq_decide.mpr (zvd11 A i))
theorem zCt_d {P Q R : Nat → Bool} (h : ∀ i, (R i = true ↔ P i = true ∧ ¬ Q i = true)) (h2 : ∀ i, Q i = true → P i = true) : ∀ n, zCt R n + zCt Q n = zCt P n
  | 0 => rfl
  | n + 1 => by
    have ih := zCt_d h h2 n
    simp only [zCt]
    by_cases q : Q n = true
    · rw [if_neg (fun r => ((h n).mp r).2 q), if_pos q, if_pos (h2 n q)]; omega
    · rw [if_neg q]
      by_cases p : P n = true
      · rw [if_pos p, if_pos ((h n).mpr ⟨p, q⟩)]; omega
      · rw [if_neg p, if_neg (fun r => p ((h n).mp r).1)]; omega
theorem zw22 (A : zDk) : zCt (fun t => decide (2 ≤ zvd A t ∧ zvd A t ≤ 2)) (kC A) = zCt (fun i => decide (¬ kR A i = -1)) (kC A) - zCt (fun i => decide (¬ zvt A i = 0)) (kC A) := by
  have := zCt_d (R := fun t => decide (2 ≤ zvd A t ∧ zvd A t ≤ 2)) (P := fun i => decide (¬ kR A i = -1)) (Q := fun i => decide (¬ zvt A i = 0)) (fun i => by
    rw [decide_eq_true_iff, decide_eq_true_iff, decide_eq_true_iff, zvd22]
    exact ⟨fun q => ⟨q.1, fun r => r q.2⟩, fun q => ⟨q.1, Classical.not_not.mp q.2⟩⟩) (fun i q => decide_eq_true (show ¬ kR A i = -1 from fun e => (of_decide_eq_true q) (by unfold zvt; rw [if_pos e]))) (kC A)
  omega
set_option maxHeartbeats 400000 in
set_option maxRecDepth 100000 in
theorem qX10_precedentCount {X : zX} (hX : X.1.stackTraces = false) {σ : zS} {y : Nat} {w tm cd dn : Int32} {K : zDk} {A S : zDk} {m : Nat} {U : Nat → zDk} {n : Nat} {T : Nat → Int32} {ll : Nat} {ln : Nat → Int32} {hs kf ld dt dc : Int32} (hM : zMo y w tm cd dn K A S m U n T ll ln hs kf ld dt dc σ) (gA : zGd A)  : zMet X mX10_precedentCount yX10_precedentCount 0 0 0 [.ref y] σ (zI (fun y_ s => y_ = nI (kP A) ∧ zFr σ s (zMq y) ∧ zMo y w tm 0 dn K A S m U n T ll ln hs kf ld dt dc s)) := by
  refine zMet_of (ls := [some (.ref y)]) rfl (by decide +kernel) rfl (fun h => by cases h) hX (Nat.le_of_ble_eq_true rfl) rfl ?_
  obtain ⟨F, g, kp, sv, bf, ip, sg, td, h0, hf, h1, h2, h3, h4, h5, h6, h11, hWa, hC, hX9, hOt, gr, gS, gK, hm8, gU, hn60, hT, hll, hln⟩ := id hM
  obtain ⟨f4, f5, f6, f7, f8, f9, f10, f11, f13, f14, f16, f27⟩ := id hf
  have hA := gA.1
  obtain ⟨r0, r1, rc, rp⟩ := id gr
  obtain ⟨hC8, hP8, hW⟩ := id hA
  refine zr_aload_n dX10_precedentCount_0 rfl ?_
  refine zr_iconst (v := 0) dX10_precedentCount_1 (by decide) ?_
  refine zr_putM (v := 0) dX10_precedentCount_2 pX10_49 h0 (rfl) (rfl) (Nat.le_of_ble_eq_true rfl) (zms_8 _ _ _) ?_
  refine zr_sig (fun ks1 e_ks1 => ?_)
  have kh2 : ks1.1 y = zmO y (upd F 8 0) := by rw [e_ks1]; exact zup_at _ _ _
  have kh3 : ks1.1 (y + 1) = .inl (0, 82, .inl g) := by rw [e_ks1, zup_ne _ _ (by omega)]; exact h1
  have kh4 : ks1.1 (y + 2) = .inl (0, 656, .inl kp) := by rw [e_ks1, zup_ne _ _ (by omega)]; exact h2
  have kh5 : ks1.1 (y + 3) = .inl (0, 82, .inl sv) := by rw [e_ks1, zup_ne _ _ (by omega)]; exact h3
  have kh6 : ks1.1 (y + 4) = .inl (0, 82, .inl bf) := by rw [e_ks1, zup_ne _ _ (by omega)]; exact h4
  have kh7 : ks1.1 (y + 5) = .inl (0, 60, .inl ip) := by rw [e_ks1, zup_ne _ _ (by omega)]; exact h5
  have kh8 : ks1.1 (y + 6) = .inl (1, 400, .inl sg) := by rw [e_ks1, zup_ne _ _ (by omega)]; exact h6
  have kh9 : ks1.1 (y + 11) = .inl (0, 93, .inl td) := by rw [e_ks1, zup_ne _ _ (by omega)]; exact h11
  have kF10 := zFr.put zFr.rf (P := zMq y) e_ks1 (by unfold zMq; omega)
  have kR11 : zWa y ks1 := zWa.fr hWa (zFr.put (P := fun q => q = y) zFr.rf e_ks1 rfl) (by intro q h1 h2 h3; (try simp only [zIn, zJf] at h3); omega)
  have kR12 : zCy y ks1 := zCy.fr hC (zFr.put (P := fun q => q = y) zFr.rf e_ks1 rfl) (by intro q h1 h2 h3; (try simp only [zIn, zJf] at h3); omega)
  have kR13 : zXa y ks1 := zXa.fr hX9 (zFr.put (P := fun q => q = y) zFr.rf e_ks1 rfl) (by intro q h1 h2 h3; (try simp only [zIn, zJf] at h3); omega)
  have kR14 : zOa y ks1 := zOa.fr hOt (zFr.put (P := fun q => q = y) zFr.rf e_ks1 rfl) (by intro q h1 h2 h3; (try simp only [zIn, zJf] at h3); omega)
  refine zr_aload_n dX10_precedentCount_5 rfl ?_
  refine zr_getM (v := .ref (y + 1)) dX10_precedentCount_6 fX10_7 kh2 rfl ?_
  refine zr_iconst (v := 1) dX10_precedentCount_9 (by decide) ?_
  refine zr_iaload dX10_precedentCount_10 kh3 (vp_in_nI (n := 1) (by omega) (by omega)) ?_
  rw [show (1 : Int32).toNatClampNeg = 1 from by decide]
  refine zr_eqi (x' := nI (kP A)) (r1) ?_
  exact zr_ireturn dX10_precedentCount_11 rfl (rfl) (⟨_, rfl, rfl, kF10, ⟨_, _, _, _, _, _, _, _, kh2, ⟨f4, f5, f6, f7, rfl, f9, f10, f11, f13, f14, f16, f27⟩, kh3, kh4, kh5, kh6, kh7, kh8, kh9, kR11, kR12, kR13, kR14, gr, gS, gK, hm8, gU, hn60, hT, hll, hln⟩⟩)

set_option maxHeartbeats 400000 in
set_option maxRecDepth 100000 in
theorem qX10_decidedCount {X : zX} (hX : X.1.stackTraces = false) {σ : zS} {y : Nat} {w tm cd dn : Int32} {K : zDk} {A S : zDk} {m : Nat} {U : Nat → zDk} {n : Nat} {T : Nat → Int32} {ll : Nat} {ln : Nat → Int32} {hs kf ld dt dc : Int32} (hM : zMo y w tm cd dn K A S m U n T ll ln hs kf ld dt dc σ) (gA : zGd A)  : zMet X mX10_decidedCount yX10_decidedCount 3 0 0 [.ref y] σ (zI (fun y_ s => y_ = nI (zCt (fun i => decide (¬ kR A i = -1)) (kC A)) ∧ zFr σ s (zMq y) ∧ zMo y w tm 0 dn K A S m U n T ll ln hs kf ld dt dc s)) := by
  refine zMet_of (ls := [some (.ref y)]) rfl (by decide +kernel) rfl (fun h => by cases h) hX (Nat.le_of_ble_eq_true rfl) rfl ?_
  obtain ⟨F, g, kp, sv, bf, ip, sg, td, h0, hf, h1, h2, h3, h4, h5, h6, h11, hWa, hC, hX9, hOt, gr, gS, gK, hm8, gU, hn60, hT, hll, hln⟩ := id hM
  obtain ⟨f4, f5, f6, f7, f8, f9, f10, f11, f13, f14, f16, f27⟩ := id hf
  have hA := gA.1
  obtain ⟨r0, r1, rc, rp⟩ := id gr
  obtain ⟨hC8, hP8, hW⟩ := id hA
  refine zr_aload_n dX10_decidedCount_0 rfl ?_
  refine zr_iconst (v := 0) dX10_decidedCount_1 (by decide) ?_
  refine zr_putM (v := 0) dX10_decidedCount_2 pX10_49 h0 (rfl) (rfl) (Nat.le_of_ble_eq_true rfl) (zms_8 _ _ _) ?_
  refine zr_sig (fun ks1 e_ks1 => ?_)
  have kh2 : ks1.1 y = zmO y (upd F 8 0) := by rw [e_ks1]; exact zup_at _ _ _
  have kh3 : ks1.1 (y + 1) = .inl (0, 82, .inl g) := by rw [e_ks1, zup_ne _ _ (by omega)]; exact h1
  have kh4 : ks1.1 (y + 2) = .inl (0, 656, .inl kp) := by rw [e_ks1, zup_ne _ _ (by omega)]; exact h2
  have kh5 : ks1.1 (y + 3) = .inl (0, 82, .inl sv) := by rw [e_ks1, zup_ne _ _ (by omega)]; exact h3
  have kh6 : ks1.1 (y + 4) = .inl (0, 82, .inl bf) := by rw [e_ks1, zup_ne _ _ (by omega)]; exact h4
  have kh7 : ks1.1 (y + 5) = .inl (0, 60, .inl ip) := by rw [e_ks1, zup_ne _ _ (by omega)]; exact h5
  have kh8 : ks1.1 (y + 6) = .inl (1, 400, .inl sg) := by rw [e_ks1, zup_ne _ _ (by omega)]; exact h6
  have kh9 : ks1.1 (y + 11) = .inl (0, 93, .inl td) := by rw [e_ks1, zup_ne _ _ (by omega)]; exact h11
  have kF10 := zFr.put zFr.rf (P := zMq y) e_ks1 (by unfold zMq; omega)
  have kR11 : zWa y ks1 := zWa.fr hWa (zFr.put (P := fun q => q = y) zFr.rf e_ks1 rfl) (by intro q h1 h2 h3; (try simp only [zIn, zJf] at h3); omega)
  have kR12 : zCy y ks1 := zCy.fr hC (zFr.put (P := fun q => q = y) zFr.rf e_ks1 rfl) (by intro q h1 h2 h3; (try simp only [zIn, zJf] at h3); omega)
  have kR13 : zXa y ks1 := zXa.fr hX9 (zFr.put (P := fun q => q = y) zFr.rf e_ks1 rfl) (by intro q h1 h2 h3; (try simp only [zIn, zJf] at h3); omega)
  have kR14 : zOa y ks1 := zOa.fr hOt (zFr.put (P := fun q => q = y) zFr.rf e_ks1 rfl) (by intro q h1 h2 h3; (try simp only [zIn, zJf] at h3); omega)
  refine zr_aload_n dX10_decidedCount_5 rfl ?_
  refine zr_iconst (v := 1) dX10_decidedCount_6 (by decide) ?_
  refine zr_iconst (v := 2) dX10_decidedCount_7 (by decide) ?_
  refine zr_pVi [] dX10_decidedCount_8 vX10_222 (qX10_with hX (vl := 1) (vh := 2) kh2 kh3 gr hA) kh2 (by decide) (by decide) (by decide) rfl rfl (Nat.le_of_ble_eq_true rfl) (by decide) rfl ?_
  refine zr_eqi (x' := nI (zCt (fun i => decide (¬ kR A i = -1)) (kC A))) (congrArg nI (zw12 A)) ?_
  exact zr_ireturn dX10_decidedCount_11 rfl (rfl) (⟨_, rfl, rfl, kF10, ⟨_, _, _, _, _, _, _, _, kh2, ⟨f4, f5, f6, f7, rfl, f9, f10, f11, f13, f14, f16, f27⟩, kh3, kh4, kh5, kh6, kh7, kh8, kh9, kR11, kR12, kR13, kR14, gr, gS, gK, hm8, gU, hn60, hT, hll, hln⟩⟩)

set_option maxHeartbeats 400000 in
set_option maxRecDepth 100000 in
theorem qX10_tangledCount {X : zX} (hX : X.1.stackTraces = false) {σ : zS} {y : Nat} {w tm cd dn : Int32} {K : zDk} {A S : zDk} {m : Nat} {U : Nat → zDk} {n : Nat} {T : Nat → Int32} {ll : Nat} {ln : Nat → Int32} {hs kf ld dt dc : Int32} (hM : zMo y w tm cd dn K A S m U n T ll ln hs kf ld dt dc σ) (gA : zGd A)  : zMet X mX10_tangledCount yX10_tangledCount 3 0 0 [.ref y] σ (zI (fun y_ s => y_ = nI (zCt (fun i => decide (¬ zvt A i = 0)) (kC A)) ∧ zFr σ s (zMq y) ∧ zMo y w tm 0 dn K A S m U n T ll ln hs kf ld dt dc s)) := by
  refine zMet_of (ls := [some (.ref y)]) rfl (by decide +kernel) rfl (fun h => by cases h) hX (Nat.le_of_ble_eq_true rfl) rfl ?_
  obtain ⟨F, g, kp, sv, bf, ip, sg, td, h0, hf, h1, h2, h3, h4, h5, h6, h11, hWa, hC, hX9, hOt, gr, gS, gK, hm8, gU, hn60, hT, hll, hln⟩ := id hM
  obtain ⟨f4, f5, f6, f7, f8, f9, f10, f11, f13, f14, f16, f27⟩ := id hf
  have hA := gA.1
  obtain ⟨r0, r1, rc, rp⟩ := id gr
  obtain ⟨hC8, hP8, hW⟩ := id hA
  refine zr_aload_n dX10_tangledCount_0 rfl ?_
  refine zr_iconst (v := 0) dX10_tangledCount_1 (by decide) ?_
  refine zr_putM (v := 0) dX10_tangledCount_2 pX10_49 h0 (rfl) (rfl) (Nat.le_of_ble_eq_true rfl) (zms_8 _ _ _) ?_
  refine zr_sig (fun ks1 e_ks1 => ?_)
  have kh2 : ks1.1 y = zmO y (upd F 8 0) := by rw [e_ks1]; exact zup_at _ _ _
  have kh3 : ks1.1 (y + 1) = .inl (0, 82, .inl g) := by rw [e_ks1, zup_ne _ _ (by omega)]; exact h1
  have kh4 : ks1.1 (y + 2) = .inl (0, 656, .inl kp) := by rw [e_ks1, zup_ne _ _ (by omega)]; exact h2
  have kh5 : ks1.1 (y + 3) = .inl (0, 82, .inl sv) := by rw [e_ks1, zup_ne _ _ (by omega)]; exact h3
  have kh6 : ks1.1 (y + 4) = .inl (0, 82, .inl bf) := by rw [e_ks1, zup_ne _ _ (by omega)]; exact h4
  have kh7 : ks1.1 (y + 5) = .inl (0, 60, .inl ip) := by rw [e_ks1, zup_ne _ _ (by omega)]; exact h5
  have kh8 : ks1.1 (y + 6) = .inl (1, 400, .inl sg) := by rw [e_ks1, zup_ne _ _ (by omega)]; exact h6
  have kh9 : ks1.1 (y + 11) = .inl (0, 93, .inl td) := by rw [e_ks1, zup_ne _ _ (by omega)]; exact h11
  have kF10 := zFr.put zFr.rf (P := zMq y) e_ks1 (by unfold zMq; omega)
  have kR11 : zWa y ks1 := zWa.fr hWa (zFr.put (P := fun q => q = y) zFr.rf e_ks1 rfl) (by intro q h1 h2 h3; (try simp only [zIn, zJf] at h3); omega)
  have kR12 : zCy y ks1 := zCy.fr hC (zFr.put (P := fun q => q = y) zFr.rf e_ks1 rfl) (by intro q h1 h2 h3; (try simp only [zIn, zJf] at h3); omega)
  have kR13 : zXa y ks1 := zXa.fr hX9 (zFr.put (P := fun q => q = y) zFr.rf e_ks1 rfl) (by intro q h1 h2 h3; (try simp only [zIn, zJf] at h3); omega)
  have kR14 : zOa y ks1 := zOa.fr hOt (zFr.put (P := fun q => q = y) zFr.rf e_ks1 rfl) (by intro q h1 h2 h3; (try simp only [zIn, zJf] at h3); omega)
  refine zr_aload_n dX10_tangledCount_5 rfl ?_
  refine zr_iconst (v := 1) dX10_tangledCount_6 (by decide) ?_
  refine zr_iconst (v := 1) dX10_tangledCount_7 (by decide) ?_
  refine zr_pVi [] dX10_tangledCount_8 vX10_222 (qX10_with hX (vl := 1) (vh := 1) kh2 kh3 gr hA) kh2 (by decide) (by decide) (by decide) rfl rfl (Nat.le_of_ble_eq_true rfl) (by decide) rfl ?_
  refine zr_eqi (x' := nI (zCt (fun i => decide (¬ zvt A i = 0)) (kC A))) (congrArg nI (zw11 A)) ?_
  exact zr_ireturn dX10_tangledCount_11 rfl (rfl) (⟨_, rfl, rfl, kF10, ⟨_, _, _, _, _, _, _, _, kh2, ⟨f4, f5, f6, f7, rfl, f9, f10, f11, f13, f14, f16, f27⟩, kh3, kh4, kh5, kh6, kh7, kh8, kh9, kR11, kR12, kR13, kR14, gr, gS, gK, hm8, gU, hn60, hT, hll, hln⟩⟩)

set_option maxHeartbeats 400000 in
set_option maxRecDepth 100000 in
theorem qX10_isConsistent {X : zX} (hX : X.1.stackTraces = false) {σ : zS} {y : Nat} {w tm cd dn : Int32} {K : zDk} {A S : zDk} {m : Nat} {U : Nat → zDk} {n : Nat} {T : Nat → Int32} {ll : Nat} {ln : Nat → Int32} {hs kf ld dt dc : Int32} (hM : zMo y w tm cd dn K A S m U n T ll ln hs kf ld dt dc σ) (gA : zGd A)  : zMet X mX10_isConsistent yX10_isConsistent 0 0 0 [.ref y] σ (zI (fun y_ s => y_ = 1 ∧ zFr σ s (zMq y) ∧ zMo y w tm 0 dn K A S m U n T ll ln hs kf ld dt dc s)) := by
  refine zMet_of (ls := [some (.ref y)]) rfl (by decide +kernel) rfl (fun h => by cases h) hX (Nat.le_of_ble_eq_true rfl) rfl ?_
  obtain ⟨F, g, kp, sv, bf, ip, sg, td, h0, hf, h1, h2, h3, h4, h5, h6, h11, hWa, hC, hX9, hOt, gr, gS, gK, hm8, gU, hn60, hT, hll, hln⟩ := id hM
  obtain ⟨f4, f5, f6, f7, f8, f9, f10, f11, f13, f14, f16, f27⟩ := id hf
  have hA := gA.1
  obtain ⟨r0, r1, rc, rp⟩ := id gr
  obtain ⟨hC8, hP8, hW⟩ := id hA
  refine zr_aload_n dX10_isConsistent_0 rfl ?_
  refine zr_iconst (v := 0) dX10_isConsistent_1 (by decide) ?_
  refine zr_putM (v := 0) dX10_isConsistent_2 pX10_49 h0 (rfl) (rfl) (Nat.le_of_ble_eq_true rfl) (zms_8 _ _ _) ?_
  refine zr_sig (fun ks1 e_ks1 => ?_)
  have kh2 : ks1.1 y = zmO y (upd F 8 0) := by rw [e_ks1]; exact zup_at _ _ _
  have kh3 : ks1.1 (y + 1) = .inl (0, 82, .inl g) := by rw [e_ks1, zup_ne _ _ (by omega)]; exact h1
  have kh4 : ks1.1 (y + 2) = .inl (0, 656, .inl kp) := by rw [e_ks1, zup_ne _ _ (by omega)]; exact h2
  have kh5 : ks1.1 (y + 3) = .inl (0, 82, .inl sv) := by rw [e_ks1, zup_ne _ _ (by omega)]; exact h3
  have kh6 : ks1.1 (y + 4) = .inl (0, 82, .inl bf) := by rw [e_ks1, zup_ne _ _ (by omega)]; exact h4
  have kh7 : ks1.1 (y + 5) = .inl (0, 60, .inl ip) := by rw [e_ks1, zup_ne _ _ (by omega)]; exact h5
  have kh8 : ks1.1 (y + 6) = .inl (1, 400, .inl sg) := by rw [e_ks1, zup_ne _ _ (by omega)]; exact h6
  have kh9 : ks1.1 (y + 11) = .inl (0, 93, .inl td) := by rw [e_ks1, zup_ne _ _ (by omega)]; exact h11
  have kF10 := zFr.put zFr.rf (P := zMq y) e_ks1 (by unfold zMq; omega)
  have kR11 : zWa y ks1 := zWa.fr hWa (zFr.put (P := fun q => q = y) zFr.rf e_ks1 rfl) (by intro q h1 h2 h3; (try simp only [zIn, zJf] at h3); omega)
  have kR12 : zCy y ks1 := zCy.fr hC (zFr.put (P := fun q => q = y) zFr.rf e_ks1 rfl) (by intro q h1 h2 h3; (try simp only [zIn, zJf] at h3); omega)
  have kR13 : zXa y ks1 := zXa.fr hX9 (zFr.put (P := fun q => q = y) zFr.rf e_ks1 rfl) (by intro q h1 h2 h3; (try simp only [zIn, zJf] at h3); omega)
  have kR14 : zOa y ks1 := zOa.fr hOt (zFr.put (P := fun q => q = y) zFr.rf e_ks1 rfl) (by intro q h1 h2 h3; (try simp only [zIn, zJf] at h3); omega)
  refine zr_iconst (v := 1) dX10_isConsistent_5 (by decide) ?_
  exact zr_ireturn dX10_isConsistent_6 rfl (rfl) (⟨_, rfl, rfl, kF10, ⟨_, _, _, _, _, _, _, _, kh2, ⟨f4, f5, f6, f7, rfl, f9, f10, f11, f13, f14, f16, f27⟩, kh3, kh4, kh5, kh6, kh7, kh8, kh9, kR11, kR12, kR13, kR14, gr, gS, gK, hm8, gU, hn60, hT, hll, hln⟩⟩)

theorem zkA_le {A : zDk} (hA : zDw A) {i : Nat} (hi : i < 8) : (kA A i ≤ 0 → kA A i = 0) ∧ (¬ kA A i ≤ 0 → kA A i = 1) := by
  rcases (hA.2.2 i hi).2.2.2.2.1 with e | e <;> rw [e]
  · exact ⟨fun _ => rfl, fun q => absurd (by decide) q⟩
  · exact ⟨fun q => absurd q (by decide), fun _ => rfl⟩
set_option maxHeartbeats 400000 in
set_option maxRecDepth 100000 in
theorem qX10_isAppealed {X : zX} (hX : X.1.stackTraces = false) {σ : zS} {y : Nat} {w tm cd dn : Int32} {K : zDk} {A S : zDk} {m : Nat} {U : Nat → zDk} {n : Nat} {T : Nat → Int32} {ll : Nat} {ln : Nat → Int32} {hs kf ld dt dc : Int32} {i : Nat} (hM : zMo y w tm cd dn K A S m U n T ll ln hs kf ld dt dc σ) (gA : zGd A) (hi : i < kP A) : zMet X mX10_isAppealed yX10_isAppealed 4 0 0 [.ref y, .int (nI i)] σ (zI (fun y_ s => y_ = kA A i ∧ zFr σ s (zMq y) ∧ zMo y w tm 0 0 K A S m U n T ll ln hs kf ld dt dc s)) := by
  refine zMet_of (ls := [some (.ref y), some (.int (nI i))]) rfl (by decide +kernel) rfl (fun h => by cases h) hX (Nat.le_of_ble_eq_true rfl) rfl ?_
  obtain ⟨F, g, kp, sv, bf, ip, sg, td, h0, hf, h1, h2, h3, h4, h5, h6, h11, hWa, hC, hX9, hOt, gr, gS, gK, hm8, gU, hn60, hT, hll, hln⟩ := id hM
  obtain ⟨f4, f5, f6, f7, f8, f9, f10, f11, f13, f14, f16, f27⟩ := id hf
  have hA := gA.1
  obtain ⟨r0, r1, rc, rp⟩ := id gr
  obtain ⟨hC8, hP8, hW⟩ := id hA
  refine zr_aload_n dX10_isAppealed_0 rfl ?_
  refine zr_iload_n dX10_isAppealed_1 rfl ?_
  refine zr_callVi [] dX10_isAppealed_2 vX10_219 (qX10_isUnknown hX (i := i) h0 h1 gr hA hi) h0 (by decide) (by decide) (by decide) rfl rfl (Nat.le_of_ble_eq_true rfl) (by decide) rfl (fun kr1 s_kr1 h_kr1 => ?_)
  obtain ⟨e_kr1, F_kr1, g0_kr1⟩ := h_kr1
  have kh2 : s_kr1.1 (y + 1) = .inl (0, 82, .inl g) := zFr.get F_kr1 (by omega) h1
  have kh3 : s_kr1.1 (y + 2) = .inl (0, 656, .inl kp) := zFr.get F_kr1 (by omega) h2
  have kh4 : s_kr1.1 (y + 3) = .inl (0, 82, .inl sv) := zFr.get F_kr1 (by omega) h3
  have kh5 : s_kr1.1 (y + 4) = .inl (0, 82, .inl bf) := zFr.get F_kr1 (by omega) h4
  have kh6 : s_kr1.1 (y + 5) = .inl (0, 60, .inl ip) := zFr.get F_kr1 (by omega) h5
  have kh7 : s_kr1.1 (y + 6) = .inl (1, 400, .inl sg) := zFr.get F_kr1 (by omega) h6
  have kh8 : s_kr1.1 (y + 11) = .inl (0, 93, .inl td) := zFr.get F_kr1 (by omega) h11
  have kR9 : zWa y s_kr1 := zWa.fr hWa F_kr1 (by intro q h1 h2 h3; (try simp only [zIn, zJf] at h3); omega)
  have kR10 : zCy y s_kr1 := zCy.fr hC F_kr1 (by intro q h1 h2 h3; (try simp only [zIn, zJf] at h3); omega)
  have kR11 : zXa y s_kr1 := zXa.fr hX9 F_kr1 (by intro q h1 h2 h3; (try simp only [zIn, zJf] at h3); omega)
  have kR12 : zOa y s_kr1 := zOa.fr hOt F_kr1 (by intro q h1 h2 h3; (try simp only [zIn, zJf] at h3); omega)
  have kF13 := zFr.tr zFr.rf (P := zMq y) F_kr1 (by intro q hq; unfold zMq; omega)
  obtain rfl := e_kr1.symm
  refine zr_if_ne (tgt := 26) dX10_isAppealed_5 (by decide) (fun c_5 => absurd (by decide) c_5) (fun c_5 => ?_)
  refine zr_aload_n dX10_isAppealed_8 rfl ?_
  refine zr_getM (v := .ref (y + 1)) dX10_isAppealed_9 fX10_7 g0_kr1 rfl ?_
  refine zr_iload_n dX10_isAppealed_12 rfl ?_
  refine zr_pSi [.ref ((y + 1))] dX10_isAppealed_13 vX10_207 (qX10_precedentAt hX (i := i)) (by decide) (by decide) (by decide) rfl rfl (Nat.le_of_ble_eq_true rfl) rfl ?_
  refine zr_iconst (v := 2) dX10_isAppealed_16 (by decide) ?_
  refine zr_iadd dX10_isAppealed_17 ?_
  refine zr_eqi (x' := nI ((42 + 5 * i) + 2)) (nI_add (42 + 5 * i) 2) ?_
  refine zr_iaload dX10_isAppealed_18 kh2 (vp_in_nI (n := (42 + 5 * i) + 2) (by omega) (by omega)) ?_
  rw [nI_clamp (n := (42 + 5 * i) + 2) (by omega)]
  refine zr_eqi (x' := (kA A i)) ((rp i hi).2.2.1) ?_
  refine zr_if_le (tgt := 26) dX10_isAppealed_19 (by decide) (fun c_19 => ?_) (fun c_19 => ?_)
  · refine zr_iconst (v := 0) dX10_isAppealed_26 (by decide) ?_
    exact zr_ireturn dX10_isAppealed_27 rfl (rfl) (⟨_, rfl, ((zkA_le hA (by omega)).1 c_19).symm, kF13, ⟨_, _, _, _, _, _, _, _, g0_kr1, ⟨f4, f5, f6, rfl, rfl, f9, f10, f11, f13, f14, f16, f27⟩, kh2, kh3, kh4, kh5, kh6, kh7, kh8, kR9, kR10, kR11, kR12, gr, gS, gK, hm8, gU, hn60, hT, hll, hln⟩⟩)
  · refine zr_iconst (v := 1) dX10_isAppealed_22 (by decide) ?_
    refine zr_goto (tgt := 27) dX10_isAppealed_23 (by decide) ?_
    exact zr_ireturn dX10_isAppealed_27 rfl (rfl) (⟨_, rfl, ((zkA_le hA (by omega)).2 c_19).symm, kF13, ⟨_, _, _, _, _, _, _, _, g0_kr1, ⟨f4, f5, f6, rfl, rfl, f9, f10, f11, f13, f14, f16, f27⟩, kh2, kh3, kh4, kh5, kh6, kh7, kh8, kR9, kR10, kR11, kR12, gr, gS, gK, hm8, gU, hn60, hT, hll, hln⟩⟩)

set_option maxHeartbeats 400000 in
set_option maxRecDepth 100000 in
theorem qX10_isAppealedX {X : zX} (hX : X.1.stackTraces = false) {σ : zS} {y : Nat} {w tm cd dn : Int32} {K : zDk} {A S : zDk} {m : Nat} {U : Nat → zDk} {n : Nat} {T : Nat → Int32} {ll : Nat} {ln : Nat → Int32} {hs kf ld dt dc : Int32} {p : Int32} (hM : zMo y w tm cd dn K A S m U n T ll ln hs kf ld dt dc σ) (gA : zGd A) (hno : ¬ (¬ p < 0 ∧ p < nI (kP A))) : zMet X mX10_isAppealed yX10_isAppealed 4 0 0 [.ref y, .int p] σ (zI (fun y_ s => True ∧ zFr σ s (zMq y) ∧ zMo y w tm 1 0 K A S m U n T ll ln hs kf ld dt dc s)) := by
  refine zMet_of (ls := [some (.ref y), some (.int p)]) rfl (by decide +kernel) rfl (fun h => by cases h) hX (Nat.le_of_ble_eq_true rfl) rfl ?_
  obtain ⟨F, g, kp, sv, bf, ip, sg, td, h0, hf, h1, h2, h3, h4, h5, h6, h11, hWa, hC, hX9, hOt, gr, gS, gK, hm8, gU, hn60, hT, hll, hln⟩ := id hM
  obtain ⟨f4, f5, f6, f7, f8, f9, f10, f11, f13, f14, f16, f27⟩ := id hf
  have hA := gA.1
  obtain ⟨r0, r1, rc, rp⟩ := id gr
  obtain ⟨hC8, hP8, hW⟩ := id hA
  refine zr_aload_n dX10_isAppealed_0 rfl ?_
  refine zr_iload_n dX10_isAppealed_1 rfl ?_
  refine zr_callVi [] dX10_isAppealed_2 vX10_219 (qX10_isUnknownX hX h0 h1 gr hA hno) h0 (by decide) (by decide) (by decide) rfl rfl (Nat.le_of_ble_eq_true rfl) (by decide) rfl (fun kr1 s_kr1 h_kr1 => ?_)
  obtain ⟨e_kr1, F_kr1, g0_kr1⟩ := h_kr1
  have kh2 : s_kr1.1 (y + 1) = .inl (0, 82, .inl g) := zFr.get F_kr1 (by omega) h1
  have kh3 : s_kr1.1 (y + 2) = .inl (0, 656, .inl kp) := zFr.get F_kr1 (by omega) h2
  have kh4 : s_kr1.1 (y + 3) = .inl (0, 82, .inl sv) := zFr.get F_kr1 (by omega) h3
  have kh5 : s_kr1.1 (y + 4) = .inl (0, 82, .inl bf) := zFr.get F_kr1 (by omega) h4
  have kh6 : s_kr1.1 (y + 5) = .inl (0, 60, .inl ip) := zFr.get F_kr1 (by omega) h5
  have kh7 : s_kr1.1 (y + 6) = .inl (1, 400, .inl sg) := zFr.get F_kr1 (by omega) h6
  have kh8 : s_kr1.1 (y + 11) = .inl (0, 93, .inl td) := zFr.get F_kr1 (by omega) h11
  have kR9 : zWa y s_kr1 := zWa.fr hWa F_kr1 (by intro q h1 h2 h3; (try simp only [zIn, zJf] at h3); omega)
  have kR10 : zCy y s_kr1 := zCy.fr hC F_kr1 (by intro q h1 h2 h3; (try simp only [zIn, zJf] at h3); omega)
  have kR11 : zXa y s_kr1 := zXa.fr hX9 F_kr1 (by intro q h1 h2 h3; (try simp only [zIn, zJf] at h3); omega)
  have kR12 : zOa y s_kr1 := zOa.fr hOt F_kr1 (by intro q h1 h2 h3; (try simp only [zIn, zJf] at h3); omega)
  have kF13 := zFr.tr zFr.rf (P := zMq y) F_kr1 (by intro q hq; unfold zMq; omega)
  obtain rfl := e_kr1.symm
  refine zr_if_ne (tgt := 26) dX10_isAppealed_5 (by decide) (fun c_5 => ?_) (fun c_5 => absurd c_5 (by decide))
  refine zr_iconst (v := 0) dX10_isAppealed_26 (by decide) ?_
  exact zr_ireturn dX10_isAppealed_27 rfl (rfl) (⟨_, rfl, trivial, kF13, ⟨_, _, _, _, _, _, _, _, g0_kr1, ⟨f4, f5, f6, rfl, rfl, f9, f10, f11, f13, f14, f16, f27⟩, kh2, kh3, kh4, kh5, kh6, kh7, kh8, kR9, kR10, kR11, kR12, gr, gS, gK, hm8, gU, hn60, hT, hll, hln⟩⟩)

set_option maxHeartbeats 400000 in
set_option maxRecDepth 100000 in
theorem l_co {X : zX} (hX : X.1.stackTraces = false) {σ : zS} {y : Nat} {F : Nat → Int32} {g : Nat → Int32} {A : zDk} {i : Nat} (h0 : σ.1 y = zmO y F) (h1 : σ.1 (y + 1) = .inl (0, 82, .inl g)) (gr : zGr A g) (hA : zDw A) (hi : i < kP A) : ∀ (j t : Nat) (u : Nat), t + j = (kC A) → (u = zCt (fun t => decide (kR A t = nI i)) t) → zW X mX10_casesOn 4 0 0 (zI (fun y_ s_ => y_ = nI (zCt (fun t => decide (kR A t = nI i)) (kC A)) ∧ s_ = σ)) 14 [some (.ref y), some (.int (nI i)), some (.int (nI u)), some (.int (nI t))] [] σ := by
  intro j
  induction j with
  | zero =>
    intro t u ht hu
    obtain ⟨r0, r1, rc, rp⟩ := id gr
    obtain ⟨hC8, hP8, hW⟩ := id hA
    refine zr_iload_n dX10_casesOn_14 rfl ?_
    refine zr_aload_n dX10_casesOn_15 rfl ?_
    refine zr_getM (v := .ref (y + 1)) dX10_casesOn_16 fX10_7 h0 rfl ?_
    refine zr_iconst (v := 0) dX10_casesOn_19 (by decide) ?_
    refine zr_iaload dX10_casesOn_20 h1 (vp_in_nI (n := 0) (by omega) (by omega)) ?_
    rw [show (0 : Int32).toNatClampNeg = 0 from by decide]
    refine zr_eqi (x' := nI (kC A)) (r0) ?_
    refine zr_icmp_ge (tgt := 57) dX10_casesOn_21 (by decide) (fun c_21 => ?_) (fun c_21 => absurd ((nI_leI (a := kC A) (b := t) (by omega) (by omega)).mpr (by omega)) c_21)
    refine zr_iload_n dX10_casesOn_57 rfl ?_
    exact zr_ireturn dX10_casesOn_58 rfl (rfl) (by have e1 : t = kC A := (by omega); rw [← e1]; exact ⟨_, rfl, congrArg nI hu, rfl⟩)
  | succ j ih =>
    intro t u ht hu
    obtain ⟨r0, r1, rc, rp⟩ := id gr
    obtain ⟨hC8, hP8, hW⟩ := id hA
    refine zr_iload_n dX10_casesOn_14 rfl ?_
    refine zr_aload_n dX10_casesOn_15 rfl ?_
    refine zr_getM (v := .ref (y + 1)) dX10_casesOn_16 fX10_7 h0 rfl ?_
    refine zr_iconst (v := 0) dX10_casesOn_19 (by decide) ?_
    refine zr_iaload dX10_casesOn_20 h1 (vp_in_nI (n := 0) (by omega) (by omega)) ?_
    rw [show (0 : Int32).toNatClampNeg = 0 from by decide]
    refine zr_eqi (x' := nI (kC A)) (r0) ?_
    refine zr_icmp_ge (tgt := 57) dX10_casesOn_21 (by decide) (fun c_21 => absurd c_21 (fun h => absurd ((nI_leI (a := kC A) (b := t) (by omega) (by omega)).mp h) (by omega))) (fun c_21 => ?_)
    refine zr_iload_n dX10_casesOn_24 rfl ?_
    refine zr_aload_n dX10_casesOn_25 rfl ?_
    refine zr_iload_n dX10_casesOn_26 rfl ?_
    refine zr_iconst (v := 1) dX10_casesOn_27 (by decide) ?_
    refine zr_pVi [.int (nI u)] dX10_casesOn_28 vX10_149 (qX10_of hX (i := t) (k := 1) h0 h1 (by omega)) h0 (by decide) (by decide) (by decide) rfl rfl (Nat.le_of_ble_eq_true rfl) (by decide) rfl ?_
    refine zr_eqi (x' := (zvd A t)) ((rc t (by omega)).2.1) ?_
    refine zr_if_le (tgt := 48) dX10_casesOn_31 (by decide) (fun c_31 => ?_) (fun c_31 => ?_)
    · refine zr_iconst (v := 0) dX10_casesOn_48 (by decide) ?_
      refine zr_iadd dX10_casesOn_49 ?_
      refine zr_eqi (x' := nI (u + 0)) (nI_add u 0) ?_
      refine zr_istore_n (ls' := [some (.ref y), some (.int (nI i)), some (.int (nI (u + 0))), some (.int (nI t))]) dX10_casesOn_50 rfl (by decide) rfl ?_
      refine zr_iinc (v := nI (t + 1)) (ls' := [some (.ref y), some (.int (nI i)), some (.int (nI (u + 0))), some (.int (nI (t + 1)))]) dX10_casesOn_51 rfl (nI_1 _) (by decide) rfl ?_
      refine zr_goto (tgt := 14) dX10_casesOn_54 (by decide) ?_
      exact ih (t + 1) _ (by omega) (by simp only [zCt]; rw [hu, if_neg (fun q => by have z := of_decide_eq_true q; rw [(zvd_le A t).mp c_31] at z; exact nI_ne i (by omega) z.symm)]; rfl)
    · refine zr_aload_n dX10_casesOn_34 rfl ?_
      refine zr_iload_n dX10_casesOn_35 rfl ?_
      refine zr_iconst (v := 2) dX10_casesOn_36 (by decide) ?_
      refine zr_pVi [.int (nI u)] dX10_casesOn_37 vX10_149 (qX10_of hX (i := t) (k := 2) h0 h1 (by omega)) h0 (by decide) (by decide) (by decide) rfl rfl (Nat.le_of_ble_eq_true rfl) (by decide) rfl ?_
      refine zr_eqi (x' := (kR A t)) ((rc t (by omega)).2.2.1) ?_
      refine zr_iload_n dX10_casesOn_40 rfl ?_
      refine zr_icmp_ne (tgt := 48) dX10_casesOn_41 (by decide) (fun c_41 => ?_) (fun c_41 => ?_)
      · refine zr_iconst (v := 0) dX10_casesOn_48 (by decide) ?_
        refine zr_iadd dX10_casesOn_49 ?_
        refine zr_eqi (x' := nI (u + 0)) (nI_add u 0) ?_
        refine zr_istore_n (ls' := [some (.ref y), some (.int (nI i)), some (.int (nI (u + 0))), some (.int (nI t))]) dX10_casesOn_50 rfl (by decide) rfl ?_
        refine zr_iinc (v := nI (t + 1)) (ls' := [some (.ref y), some (.int (nI i)), some (.int (nI (u + 0))), some (.int (nI (t + 1)))]) dX10_casesOn_51 rfl (nI_1 _) (by decide) rfl ?_
        refine zr_goto (tgt := 14) dX10_casesOn_54 (by decide) ?_
        exact ih (t + 1) _ (by omega) (by simp only [zCt]; rw [hu, if_neg (fun q => c_41 (of_decide_eq_true q))]; rfl)
      · refine zr_iconst (v := 1) dX10_casesOn_44 (by decide) ?_
        refine zr_goto (tgt := 49) dX10_casesOn_45 (by decide) ?_
        refine zr_iadd dX10_casesOn_49 ?_
        refine zr_eqi (x' := nI (u + 1)) (nI_add u 1) ?_
        refine zr_istore_n (ls' := [some (.ref y), some (.int (nI i)), some (.int (nI (u + 1))), some (.int (nI t))]) dX10_casesOn_50 rfl (by decide) rfl ?_
        refine zr_iinc (v := nI (t + 1)) (ls' := [some (.ref y), some (.int (nI i)), some (.int (nI (u + 1))), some (.int (nI (t + 1)))]) dX10_casesOn_51 rfl (nI_1 _) (by decide) rfl ?_
        refine zr_goto (tgt := 14) dX10_casesOn_54 (by decide) ?_
        exact ih (t + 1) _ (by omega) (by simp only [zCt]; rw [hu, if_pos (decide_eq_true c_41)])

set_option maxHeartbeats 400000 in
set_option maxRecDepth 100000 in
theorem qX10_casesOn {X : zX} (hX : X.1.stackTraces = false) {σ : zS} {y : Nat} {w tm cd dn : Int32} {K : zDk} {A S : zDk} {m : Nat} {U : Nat → zDk} {n : Nat} {T : Nat → Int32} {ll : Nat} {ln : Nat → Int32} {hs kf ld dt dc : Int32} {i : Nat} (hM : zMo y w tm cd dn K A S m U n T ll ln hs kf ld dt dc σ) (gA : zGd A) (hi : i < kP A) : zMet X mX10_casesOn yX10_casesOn 4 0 0 [.ref y, .int (nI i)] σ (zI (fun y_ s => y_ = nI (zCt (fun t => decide (kR A t = nI i)) (kC A)) ∧ zFr σ s (zMq y) ∧ zMo y w tm 0 0 K A S m U n T ll ln hs kf ld dt dc s)) := by
  refine zMet_of (ls := [some (.ref y), some (.int (nI i)), none, none]) rfl (by decide +kernel) rfl (fun h => by cases h) hX (Nat.le_of_ble_eq_true rfl) rfl ?_
  obtain ⟨F, g, kp, sv, bf, ip, sg, td, h0, hf, h1, h2, h3, h4, h5, h6, h11, hWa, hC, hX9, hOt, gr, gS, gK, hm8, gU, hn60, hT, hll, hln⟩ := id hM
  obtain ⟨f4, f5, f6, f7, f8, f9, f10, f11, f13, f14, f16, f27⟩ := id hf
  have hA := gA.1
  obtain ⟨r0, r1, rc, rp⟩ := id gr
  obtain ⟨hC8, hP8, hW⟩ := id hA
  refine zr_aload_n dX10_casesOn_0 rfl ?_
  refine zr_iload_n dX10_casesOn_1 rfl ?_
  refine zr_callVi [] dX10_casesOn_2 vX10_219 (qX10_isUnknown hX (i := i) h0 h1 gr hA hi) h0 (by decide) (by decide) (by decide) rfl rfl (Nat.le_of_ble_eq_true rfl) (by decide) rfl (fun kr1 s_kr1 h_kr1 => ?_)
  obtain ⟨e_kr1, F_kr1, g0_kr1⟩ := h_kr1
  have kh2 : s_kr1.1 (y + 1) = .inl (0, 82, .inl g) := zFr.get F_kr1 (by omega) h1
  have kh3 : s_kr1.1 (y + 2) = .inl (0, 656, .inl kp) := zFr.get F_kr1 (by omega) h2
  have kh4 : s_kr1.1 (y + 3) = .inl (0, 82, .inl sv) := zFr.get F_kr1 (by omega) h3
  have kh5 : s_kr1.1 (y + 4) = .inl (0, 82, .inl bf) := zFr.get F_kr1 (by omega) h4
  have kh6 : s_kr1.1 (y + 5) = .inl (0, 60, .inl ip) := zFr.get F_kr1 (by omega) h5
  have kh7 : s_kr1.1 (y + 6) = .inl (1, 400, .inl sg) := zFr.get F_kr1 (by omega) h6
  have kh8 : s_kr1.1 (y + 11) = .inl (0, 93, .inl td) := zFr.get F_kr1 (by omega) h11
  have kR9 : zWa y s_kr1 := zWa.fr hWa F_kr1 (by intro q h1 h2 h3; (try simp only [zIn, zJf] at h3); omega)
  have kR10 : zCy y s_kr1 := zCy.fr hC F_kr1 (by intro q h1 h2 h3; (try simp only [zIn, zJf] at h3); omega)
  have kR11 : zXa y s_kr1 := zXa.fr hX9 F_kr1 (by intro q h1 h2 h3; (try simp only [zIn, zJf] at h3); omega)
  have kR12 : zOa y s_kr1 := zOa.fr hOt F_kr1 (by intro q h1 h2 h3; (try simp only [zIn, zJf] at h3); omega)
  have kF13 := zFr.tr zFr.rf (P := zMq y) F_kr1 (by intro q hq; unfold zMq; omega)
  obtain rfl := e_kr1.symm
  refine zr_if_eq (tgt := 10) dX10_casesOn_5 (by decide) (fun c_5 => ?_) (fun c_5 => absurd (by decide) c_5)
  refine zr_iconst (v := 0) dX10_casesOn_10 (by decide) ?_
  refine zr_istore_n (ls' := [some (.ref y), some (.int (nI i)), some (.int 0), none]) dX10_casesOn_11 rfl (by decide) rfl ?_
  refine zr_iconst (v := 0) dX10_casesOn_12 (by decide) ?_
  refine zr_istore_n (ls' := [some (.ref y), some (.int (nI i)), some (.int 0), some (.int 0)]) dX10_casesOn_13 rfl (by decide) rfl ?_
  exact (l_co hX g0_kr1 kh2 gr hA hi (kC A) 0 0 (by omega) rfl).mono (fun o s q => by obtain ⟨r, e1, e2, e3⟩ := q; rw [e3]; exact ⟨r, e1, e2, kF13, ⟨_, _, _, _, _, _, _, _, g0_kr1, ⟨f4, f5, f6, rfl, rfl, f9, f10, f11, f13, f14, f16, f27⟩, kh2, kh3, kh4, kh5, kh6, kh7, kh8, kR9, kR10, kR11, kR12, gr, gS, gK, hm8, gU, hn60, hT, hll, hln⟩⟩)

set_option maxHeartbeats 400000 in
set_option maxRecDepth 100000 in
theorem qX10_casesOnX {X : zX} (hX : X.1.stackTraces = false) {σ : zS} {y : Nat} {w tm cd dn : Int32} {K : zDk} {A S : zDk} {m : Nat} {U : Nat → zDk} {n : Nat} {T : Nat → Int32} {ll : Nat} {ln : Nat → Int32} {hs kf ld dt dc : Int32} {p : Int32} (hM : zMo y w tm cd dn K A S m U n T ll ln hs kf ld dt dc σ) (gA : zGd A) (hno : ¬ (¬ p < 0 ∧ p < nI (kP A))) : zMet X mX10_casesOn yX10_casesOn 4 0 0 [.ref y, .int p] σ (zI (fun y_ s => True ∧ zFr σ s (zMq y) ∧ zMo y w tm 1 0 K A S m U n T ll ln hs kf ld dt dc s)) := by
  refine zMet_of (ls := [some (.ref y), some (.int p), none, none]) rfl (by decide +kernel) rfl (fun h => by cases h) hX (Nat.le_of_ble_eq_true rfl) rfl ?_
  obtain ⟨F, g, kp, sv, bf, ip, sg, td, h0, hf, h1, h2, h3, h4, h5, h6, h11, hWa, hC, hX9, hOt, gr, gS, gK, hm8, gU, hn60, hT, hll, hln⟩ := id hM
  obtain ⟨f4, f5, f6, f7, f8, f9, f10, f11, f13, f14, f16, f27⟩ := id hf
  have hA := gA.1
  obtain ⟨r0, r1, rc, rp⟩ := id gr
  obtain ⟨hC8, hP8, hW⟩ := id hA
  refine zr_aload_n dX10_casesOn_0 rfl ?_
  refine zr_iload_n dX10_casesOn_1 rfl ?_
  refine zr_callVi [] dX10_casesOn_2 vX10_219 (qX10_isUnknownX hX h0 h1 gr hA hno) h0 (by decide) (by decide) (by decide) rfl rfl (Nat.le_of_ble_eq_true rfl) (by decide) rfl (fun kr1 s_kr1 h_kr1 => ?_)
  obtain ⟨e_kr1, F_kr1, g0_kr1⟩ := h_kr1
  have kh2 : s_kr1.1 (y + 1) = .inl (0, 82, .inl g) := zFr.get F_kr1 (by omega) h1
  have kh3 : s_kr1.1 (y + 2) = .inl (0, 656, .inl kp) := zFr.get F_kr1 (by omega) h2
  have kh4 : s_kr1.1 (y + 3) = .inl (0, 82, .inl sv) := zFr.get F_kr1 (by omega) h3
  have kh5 : s_kr1.1 (y + 4) = .inl (0, 82, .inl bf) := zFr.get F_kr1 (by omega) h4
  have kh6 : s_kr1.1 (y + 5) = .inl (0, 60, .inl ip) := zFr.get F_kr1 (by omega) h5
  have kh7 : s_kr1.1 (y + 6) = .inl (1, 400, .inl sg) := zFr.get F_kr1 (by omega) h6
  have kh8 : s_kr1.1 (y + 11) = .inl (0, 93, .inl td) := zFr.get F_kr1 (by omega) h11
  have kR9 : zWa y s_kr1 := zWa.fr hWa F_kr1 (by intro q h1 h2 h3; (try simp only [zIn, zJf] at h3); omega)
  have kR10 : zCy y s_kr1 := zCy.fr hC F_kr1 (by intro q h1 h2 h3; (try simp only [zIn, zJf] at h3); omega)
  have kR11 : zXa y s_kr1 := zXa.fr hX9 F_kr1 (by intro q h1 h2 h3; (try simp only [zIn, zJf] at h3); omega)
  have kR12 : zOa y s_kr1 := zOa.fr hOt F_kr1 (by intro q h1 h2 h3; (try simp only [zIn, zJf] at h3); omega)
  have kF13 := zFr.tr zFr.rf (P := zMq y) F_kr1 (by intro q hq; unfold zMq; omega)
  obtain rfl := e_kr1.symm
  refine zr_if_eq (tgt := 10) dX10_casesOn_5 (by decide) (fun c_5 => absurd c_5 (by decide)) (fun c_5 => ?_)
  refine zr_iconst (v := 0) dX10_casesOn_8 (by decide) ?_
  exact zr_ireturn dX10_casesOn_9 rfl (rfl) (⟨_, rfl, trivial, kF13, ⟨_, _, _, _, _, _, _, _, g0_kr1, ⟨f4, f5, f6, rfl, rfl, f9, f10, f11, f13, f14, f16, f27⟩, kh2, kh3, kh4, kh5, kh6, kh7, kh8, kR9, kR10, kR11, kR12, gr, gS, gK, hm8, gU, hn60, hT, hll, hln⟩⟩)

set_option maxHeartbeats 400000 in
set_option maxRecDepth 100000 in
theorem l_ml {X : zX} (hX : X.1.stackTraces = false) {σ : zS} {y : Nat} {F : Nat → Int32} {g : Nat → Int32} {A : zDk} (h0 : σ.1 y = zmO y F) (h1 : σ.1 (y + 1) = .inl (0, 82, .inl g)) (gr : zGr A g) (hA : zDw A) (hc0 : 0 < kC A) : ∀ (j t : Nat) (u : Nat), t + j = (kC A) → (u = zLs (kN A) t) → zW X mX10_meanLength 4 0 0 ((zDb (fun y_ s_ => y_ = FP.ddiv (FP.i2d (nI (zLs (kN A) (kC A)))) (FP.i2d (nI (kC A))) ∧ s_ = σ))) 27 [some (.ref y), some (.int (nI u)), some (.int (nI t))] [] σ := by
  intro j
  induction j with
  | zero =>
    intro t u ht hu
    obtain ⟨r0, r1, rc, rp⟩ := id gr
    obtain ⟨hC8, hP8, hW⟩ := id hA
    refine zr_iload_n dX10_meanLength_27 rfl ?_
    refine zr_aload_n dX10_meanLength_28 rfl ?_
    refine zr_getM (v := .ref (y + 1)) dX10_meanLength_29 fX10_7 h0 rfl ?_
    refine zr_iconst (v := 0) dX10_meanLength_32 (by decide) ?_
    refine zr_iaload dX10_meanLength_33 h1 (vp_in_nI (n := 0) (by omega) (by omega)) ?_
    rw [show (0 : Int32).toNatClampNeg = 0 from by decide]
    refine zr_eqi (x' := nI (kC A)) (r0) ?_
    refine zr_icmp_ge (tgt := 52) dX10_meanLength_34 (by decide) (fun c_34 => ?_) (fun c_34 => absurd ((nI_leI (a := kC A) (b := t) (by omega) (by omega)).mpr (by omega)) c_34)
    refine zr_iload_n dX10_meanLength_52 rfl ?_
    refine zr_i2d dX10_meanLength_53 ?_
    refine zr_aload_n dX10_meanLength_54 rfl ?_
    refine zr_getM (v := .ref (y + 1)) dX10_meanLength_55 fX10_7 h0 rfl ?_
    refine zr_iconst (v := 0) dX10_meanLength_58 (by decide) ?_
    refine zr_iaload dX10_meanLength_59 h1 (vp_in_nI (n := 0) (by omega) (by omega)) ?_
    rw [show (0 : Int32).toNatClampNeg = 0 from by decide]
    refine zr_eqi (x' := nI (kC A)) (r0) ?_
    refine zr_i2d dX10_meanLength_60 ?_
    refine zr_ddiv dX10_meanLength_61 (by have e1 : t = kC A := (by omega); rw [hu, e1]; exact vn64 _ (by have := zLs_le (l := kN A) (n := kC A) (fun i hi => (hW i (by omega)).1); omega) _ (by omega) (by omega)) ?_
    exact zr_dreturn dX10_meanLength_62 rfl (by have e1 : t = kC A := (by omega); rw [hu, e1]; exact ⟨_, rfl, rfl, rfl⟩)
  | succ j ih =>
    intro t u ht hu
    obtain ⟨r0, r1, rc, rp⟩ := id gr
    obtain ⟨hC8, hP8, hW⟩ := id hA
    refine zr_iload_n dX10_meanLength_27 rfl ?_
    refine zr_aload_n dX10_meanLength_28 rfl ?_
    refine zr_getM (v := .ref (y + 1)) dX10_meanLength_29 fX10_7 h0 rfl ?_
    refine zr_iconst (v := 0) dX10_meanLength_32 (by decide) ?_
    refine zr_iaload dX10_meanLength_33 h1 (vp_in_nI (n := 0) (by omega) (by omega)) ?_
    rw [show (0 : Int32).toNatClampNeg = 0 from by decide]
    refine zr_eqi (x' := nI (kC A)) (r0) ?_
    refine zr_icmp_ge (tgt := 52) dX10_meanLength_34 (by decide) (fun c_34 => absurd c_34 (fun h => absurd ((nI_leI (a := kC A) (b := t) (by omega) (by omega)).mp h) (by omega))) (fun c_34 => ?_)
    refine zr_iload_n dX10_meanLength_37 rfl ?_
    refine zr_aload_n dX10_meanLength_38 rfl ?_
    refine zr_iload_n dX10_meanLength_39 rfl ?_
    refine zr_iconst (v := 0) dX10_meanLength_40 (by decide) ?_
    refine zr_pVi [.int (nI u)] dX10_meanLength_41 vX10_149 (qX10_of hX (i := t) (k := 0) h0 h1 (by omega)) h0 (by decide) (by decide) (by decide) rfl rfl (Nat.le_of_ble_eq_true rfl) (by decide) rfl ?_
    refine zr_eqi (x' := nI (kN A t)) ((rc t (by omega)).1) ?_
    refine zr_iadd dX10_meanLength_44 ?_
    refine zr_eqi (x' := nI (u + (kN A t))) (nI_add u (kN A t)) ?_
    refine zr_istore_n (ls' := [some (.ref y), some (.int (nI (u + (kN A t)))), some (.int (nI t))]) dX10_meanLength_45 rfl (by decide) rfl ?_
    refine zr_iinc (v := nI (t + 1)) (ls' := [some (.ref y), some (.int (nI (u + (kN A t)))), some (.int (nI (t + 1)))]) dX10_meanLength_46 rfl (nI_1 _) (by decide) rfl ?_
    refine zr_goto (tgt := 27) dX10_meanLength_49 (by decide) ?_
    exact ih (t + 1) _ (by omega) (by simp only [zLs]; rw [hu])

set_option maxHeartbeats 400000 in
set_option maxRecDepth 100000 in
theorem qX10_meanLength {X : zX} (hX : X.1.stackTraces = false) {σ : zS} {y : Nat} {w tm cd dn : Int32} {K : zDk} {A S : zDk} {m : Nat} {U : Nat → zDk} {n : Nat} {T : Nat → Int32} {ll : Nat} {ln : Nat → Int32} {hs kf ld dt dc : Int32} (hM : zMo y w tm cd dn K A S m U n T ll ln hs kf ld dt dc σ) (gA : zGd A) (hc0 : 0 < kC A) : zMet X mX10_meanLength yX10_meanLength 4 0 0 [.ref y] σ (zDb (fun y_ s => y_ = FP.ddiv (FP.i2d (nI (zLs (kN A) (kC A)))) (FP.i2d (nI (kC A))) ∧ zFr σ s (zMq y) ∧ zMo y w tm 0 0 K A S m U n T ll ln hs kf ld dt dc s)) := by
  refine zMet_of (ls := [some (.ref y), none, none]) rfl (by decide +kernel) rfl (fun h => by cases h) hX (Nat.le_of_ble_eq_true rfl) rfl ?_
  obtain ⟨F, g, kp, sv, bf, ip, sg, td, h0, hf, h1, h2, h3, h4, h5, h6, h11, hWa, hC, hX9, hOt, gr, gS, gK, hm8, gU, hn60, hT, hll, hln⟩ := id hM
  obtain ⟨f4, f5, f6, f7, f8, f9, f10, f11, f13, f14, f16, f27⟩ := id hf
  have hA := gA.1
  obtain ⟨r0, r1, rc, rp⟩ := id gr
  obtain ⟨hC8, hP8, hW⟩ := id hA
  refine zr_aload_n dX10_meanLength_0 rfl ?_
  refine zr_aload_n dX10_meanLength_1 rfl ?_
  refine zr_getM (v := .ref (y + 1)) dX10_meanLength_2 fX10_7 h0 rfl ?_
  refine zr_iconst (v := 0) dX10_meanLength_5 (by decide) ?_
  refine zr_iaload dX10_meanLength_6 h1 (vp_in_nI (n := 0) (by omega) (by omega)) ?_
  rw [show (0 : Int32).toNatClampNeg = 0 from by decide]
  refine zr_eqi (x' := nI (kC A)) (r0) ?_
  refine zr_if_ne (tgt := 14) dX10_meanLength_7 (by decide) (fun c_7 => ?_) (fun c_7 => absurd c_7 (nI_ne0 hc0 (by omega)))
  refine zr_iconst (v := 0) dX10_meanLength_14 (by decide) ?_
  refine zr_callVi [] dX10_meanLength_15 vX10_135 (qX10_fails hX (p := 0) h0) h0 (by decide) (by decide) (by decide) rfl rfl (Nat.le_of_ble_eq_true rfl) (by decide) rfl (fun kr1 s_kr1 h_kr1 => ?_)
  obtain ⟨e_kr1, F_kr1, g0_kr1⟩ := h_kr1
  have kh2 : s_kr1.1 (y + 1) = .inl (0, 82, .inl g) := zFr.get F_kr1 (by omega) h1
  have kh3 : s_kr1.1 (y + 2) = .inl (0, 656, .inl kp) := zFr.get F_kr1 (by omega) h2
  have kh4 : s_kr1.1 (y + 3) = .inl (0, 82, .inl sv) := zFr.get F_kr1 (by omega) h3
  have kh5 : s_kr1.1 (y + 4) = .inl (0, 82, .inl bf) := zFr.get F_kr1 (by omega) h4
  have kh6 : s_kr1.1 (y + 5) = .inl (0, 60, .inl ip) := zFr.get F_kr1 (by omega) h5
  have kh7 : s_kr1.1 (y + 6) = .inl (1, 400, .inl sg) := zFr.get F_kr1 (by omega) h6
  have kh8 : s_kr1.1 (y + 11) = .inl (0, 93, .inl td) := zFr.get F_kr1 (by omega) h11
  have kR9 : zWa y s_kr1 := zWa.fr hWa F_kr1 (by intro q h1 h2 h3; (try simp only [zIn, zJf] at h3); omega)
  have kR10 : zCy y s_kr1 := zCy.fr hC F_kr1 (by intro q h1 h2 h3; (try simp only [zIn, zJf] at h3); omega)
  have kR11 : zXa y s_kr1 := zXa.fr hX9 F_kr1 (by intro q h1 h2 h3; (try simp only [zIn, zJf] at h3); omega)
  have kR12 : zOa y s_kr1 := zOa.fr hOt F_kr1 (by intro q h1 h2 h3; (try simp only [zIn, zJf] at h3); omega)
  have kF13 := zFr.tr zFr.rf (P := zMq y) F_kr1 (by intro q hq; unfold zMq; omega)
  replace e_kr1 := e_kr1.trans (if_pos (by decide) : (_ : Int32) = 0)
  obtain rfl := e_kr1.symm
  refine zr_if_eq (tgt := 23) dX10_meanLength_18 (by decide) (fun c_18 => ?_) (fun c_18 => absurd (by decide) c_18)
  refine zr_iconst (v := 0) dX10_meanLength_23 (by decide) ?_
  refine zr_istore_n (ls' := [some (.ref y), some (.int 0), none]) dX10_meanLength_24 rfl (by decide) rfl ?_
  refine zr_iconst (v := 0) dX10_meanLength_25 (by decide) ?_
  refine zr_istore_n (ls' := [some (.ref y), some (.int 0), some (.int 0)]) dX10_meanLength_26 rfl (by decide) rfl ?_
  exact (l_ml hX g0_kr1 kh2 gr hA hc0 (kC A) 0 0 (by omega) rfl).mono (fun o s q => by obtain ⟨r, e1, e2, e3⟩ := q; rw [e3]; exact ⟨r, e1, e2, kF13, ⟨_, _, _, _, _, _, _, _, g0_kr1, ⟨f4, f5, f6, rfl, rfl, f9, f10, f11, f13, f14, f16, f27⟩, kh2, kh3, kh4, kh5, kh6, kh7, kh8, kR9, kR10, kR11, kR12, gr, gS, gK, hm8, gU, hn60, hT, hll, hln⟩⟩)

set_option maxHeartbeats 400000 in
set_option maxRecDepth 100000 in
theorem qX10_meanLengthN {X : zX} (hX : X.1.stackTraces = false) {σ : zS} {y : Nat} {w tm cd dn : Int32} {K : zDk} {A S : zDk} {m : Nat} {U : Nat → zDk} {n : Nat} {T : Nat → Int32} {ll : Nat} {ln : Nat → Int32} {hs kf ld dt dc : Int32} (hM : zMo y w tm cd dn K A S m U n T ll ln hs kf ld dt dc σ) (gA : zGd A) (hc0 : kC A = 0) : zMet X mX10_meanLength yX10_meanLength 4 0 0 [.ref y] σ (zDb (fun y_ s => True ∧ zFr σ s (zMq y) ∧ zMo y w tm 1 0 K A S m U n T ll ln hs kf ld dt dc s)) := by
  refine zMet_of (ls := [some (.ref y), none, none]) rfl (by decide +kernel) rfl (fun h => by cases h) hX (Nat.le_of_ble_eq_true rfl) rfl ?_
  obtain ⟨F, g, kp, sv, bf, ip, sg, td, h0, hf, h1, h2, h3, h4, h5, h6, h11, hWa, hC, hX9, hOt, gr, gS, gK, hm8, gU, hn60, hT, hll, hln⟩ := id hM
  obtain ⟨f4, f5, f6, f7, f8, f9, f10, f11, f13, f14, f16, f27⟩ := id hf
  have hA := gA.1
  obtain ⟨r0, r1, rc, rp⟩ := id gr
  obtain ⟨hC8, hP8, hW⟩ := id hA
  refine zr_aload_n dX10_meanLength_0 rfl ?_
  refine zr_aload_n dX10_meanLength_1 rfl ?_
  refine zr_getM (v := .ref (y + 1)) dX10_meanLength_2 fX10_7 h0 rfl ?_
  refine zr_iconst (v := 0) dX10_meanLength_5 (by decide) ?_
  refine zr_iaload dX10_meanLength_6 h1 (vp_in_nI (n := 0) (by omega) (by omega)) ?_
  rw [show (0 : Int32).toNatClampNeg = 0 from by decide]
  refine zr_eqi (x' := nI (kC A)) (r0) ?_
  refine zr_if_ne (tgt := 14) dX10_meanLength_7 (by decide) (fun c_7 => absurd (by rw [hc0]; rfl) c_7) (fun c_7 => ?_)
  refine zr_iconst (v := 1) dX10_meanLength_10 (by decide) ?_
  refine zr_goto (tgt := 15) dX10_meanLength_11 (by decide) ?_
  refine zr_callVi [] dX10_meanLength_15 vX10_135 (qX10_fails hX (p := 1) h0) h0 (by decide) (by decide) (by decide) rfl rfl (Nat.le_of_ble_eq_true rfl) (by decide) rfl (fun kr1 s_kr1 h_kr1 => ?_)
  obtain ⟨e_kr1, F_kr1, g0_kr1⟩ := h_kr1
  have kh2 : s_kr1.1 (y + 1) = .inl (0, 82, .inl g) := zFr.get F_kr1 (by omega) h1
  have kh3 : s_kr1.1 (y + 2) = .inl (0, 656, .inl kp) := zFr.get F_kr1 (by omega) h2
  have kh4 : s_kr1.1 (y + 3) = .inl (0, 82, .inl sv) := zFr.get F_kr1 (by omega) h3
  have kh5 : s_kr1.1 (y + 4) = .inl (0, 82, .inl bf) := zFr.get F_kr1 (by omega) h4
  have kh6 : s_kr1.1 (y + 5) = .inl (0, 60, .inl ip) := zFr.get F_kr1 (by omega) h5
  have kh7 : s_kr1.1 (y + 6) = .inl (1, 400, .inl sg) := zFr.get F_kr1 (by omega) h6
  have kh8 : s_kr1.1 (y + 11) = .inl (0, 93, .inl td) := zFr.get F_kr1 (by omega) h11
  have kR9 : zWa y s_kr1 := zWa.fr hWa F_kr1 (by intro q h1 h2 h3; (try simp only [zIn, zJf] at h3); omega)
  have kR10 : zCy y s_kr1 := zCy.fr hC F_kr1 (by intro q h1 h2 h3; (try simp only [zIn, zJf] at h3); omega)
  have kR11 : zXa y s_kr1 := zXa.fr hX9 F_kr1 (by intro q h1 h2 h3; (try simp only [zIn, zJf] at h3); omega)
  have kR12 : zOa y s_kr1 := zOa.fr hOt F_kr1 (by intro q h1 h2 h3; (try simp only [zIn, zJf] at h3); omega)
  have kF13 := zFr.tr zFr.rf (P := zMq y) F_kr1 (by intro q hq; unfold zMq; omega)
  replace e_kr1 := e_kr1.trans (if_neg (by decide) : (_ : Int32) = 1)
  obtain rfl := e_kr1.symm
  refine zr_if_eq (tgt := 23) dX10_meanLength_18 (by decide) (fun c_18 => absurd c_18 (by decide)) (fun c_18 => ?_)
  refine zr_dconst0 dX10_meanLength_21 ?_
  exact zr_dreturn dX10_meanLength_22 rfl (⟨_, rfl, trivial, kF13, ⟨_, _, _, _, _, _, _, _, g0_kr1, ⟨f4, f5, f6, rfl, rfl, f9, f10, f11, f13, f14, f16, f27⟩, kh2, kh3, kh4, kh5, kh6, kh7, kh8, kR9, kR10, kR11, kR12, gr, gS, gK, hm8, gU, hn60, hT, hll, hln⟩⟩)

set_option maxHeartbeats 400000 in
set_option maxRecDepth 100000 in
theorem qX10_freedShare {X : zX} (hX : X.1.stackTraces = false) {σ : zS} {y : Nat} {w tm cd dn : Int32} {K : zDk} {A S : zDk} {m : Nat} {U : Nat → zDk} {n : Nat} {T : Nat → Int32} {ll : Nat} {ln : Nat → Int32} {hs kf ld dt dc : Int32} (hM : zMo y w tm cd dn K A S m U n T ll ln hs kf ld dt dc σ) (gA : zGd A) (hd0 : 0 < (zCt (fun i => decide (¬ kR A i = -1)) (kC A))) : zMet X mX10_freedShare yX10_freedShare 4 0 0 [.ref y] σ (zF (fun y_ s => y_ = FP.fdiv (FP.i2f (nI ((zCt (fun i => decide (¬ kR A i = -1)) (kC A)) - (zCt (fun i => decide (¬ zvt A i = 0)) (kC A))))) (FP.i2f (nI (zCt (fun i => decide (¬ kR A i = -1)) (kC A)))) ∧ zFr σ s (zMq y) ∧ zMo y w tm 0 0 K A S m U n T ll ln hs kf ld dt dc s)) := by
  refine zMet_of (ls := [some (.ref y)]) rfl (by decide +kernel) rfl (fun h => by cases h) hX (Nat.le_of_ble_eq_true rfl) rfl ?_
  obtain ⟨F, g, kp, sv, bf, ip, sg, td, h0, hf, h1, h2, h3, h4, h5, h6, h11, hWa, hC, hX9, hOt, gr, gS, gK, hm8, gU, hn60, hT, hll, hln⟩ := id hM
  obtain ⟨f4, f5, f6, f7, f8, f9, f10, f11, f13, f14, f16, f27⟩ := id hf
  have hA := gA.1
  obtain ⟨r0, r1, rc, rp⟩ := id gr
  obtain ⟨hC8, hP8, hW⟩ := id hA
  have d1 := zCt_le (fun i => decide (¬ kR A i = -1)) (kC A)
  have d2 := zCt_tg A (kC A)
  refine zr_aload_n dX10_freedShare_0 rfl ?_
  refine zr_aload_n dX10_freedShare_1 rfl ?_
  refine zr_iconst (v := 1) dX10_freedShare_2 (by decide) ?_
  refine zr_iconst (v := 2) dX10_freedShare_3 (by decide) ?_
  refine zr_pVi [.ref y] dX10_freedShare_4 vX10_222 (qX10_with hX (vl := 1) (vh := 2) h0 h1 gr hA) h0 (by decide) (by decide) (by decide) rfl rfl (Nat.le_of_ble_eq_true rfl) (by decide) rfl ?_
  refine zr_eqi (x' := nI (zCt (fun i => decide (¬ kR A i = -1)) (kC A))) (congrArg nI (zw12 A)) ?_
  refine zr_if_ne (tgt := 14) dX10_freedShare_7 (by decide) (fun c_7 => ?_) (fun c_7 => absurd c_7 (nI_ne0 hd0 (by omega)))
  refine zr_iconst (v := 0) dX10_freedShare_14 (by decide) ?_
  refine zr_callVi [] dX10_freedShare_15 vX10_135 (qX10_fails hX (p := 0) h0) h0 (by decide) (by decide) (by decide) rfl rfl (Nat.le_of_ble_eq_true rfl) (by decide) rfl (fun kr1 s_kr1 h_kr1 => ?_)
  obtain ⟨e_kr1, F_kr1, g0_kr1⟩ := h_kr1
  have kh2 : s_kr1.1 (y + 1) = .inl (0, 82, .inl g) := zFr.get F_kr1 (by omega) h1
  have kh3 : s_kr1.1 (y + 2) = .inl (0, 656, .inl kp) := zFr.get F_kr1 (by omega) h2
  have kh4 : s_kr1.1 (y + 3) = .inl (0, 82, .inl sv) := zFr.get F_kr1 (by omega) h3
  have kh5 : s_kr1.1 (y + 4) = .inl (0, 82, .inl bf) := zFr.get F_kr1 (by omega) h4
  have kh6 : s_kr1.1 (y + 5) = .inl (0, 60, .inl ip) := zFr.get F_kr1 (by omega) h5
  have kh7 : s_kr1.1 (y + 6) = .inl (1, 400, .inl sg) := zFr.get F_kr1 (by omega) h6
  have kh8 : s_kr1.1 (y + 11) = .inl (0, 93, .inl td) := zFr.get F_kr1 (by omega) h11
  have kR9 : zWa y s_kr1 := zWa.fr hWa F_kr1 (by intro q h1 h2 h3; (try simp only [zIn, zJf] at h3); omega)
  have kR10 : zCy y s_kr1 := zCy.fr hC F_kr1 (by intro q h1 h2 h3; (try simp only [zIn, zJf] at h3); omega)
  have kR11 : zXa y s_kr1 := zXa.fr hX9 F_kr1 (by intro q h1 h2 h3; (try simp only [zIn, zJf] at h3); omega)
  have kR12 : zOa y s_kr1 := zOa.fr hOt F_kr1 (by intro q h1 h2 h3; (try simp only [zIn, zJf] at h3); omega)
  have kF13 := zFr.tr zFr.rf (P := zMq y) F_kr1 (by intro q hq; unfold zMq; omega)
  replace e_kr1 := e_kr1.trans (if_pos (by decide) : (_ : Int32) = 0)
  obtain rfl := e_kr1.symm
  refine zr_if_eq (tgt := 25) dX10_freedShare_18 (by decide) (fun c_18 => ?_) (fun c_18 => absurd (by decide) c_18)
  refine zr_aload_n dX10_freedShare_25 rfl ?_
  refine zr_iconst (v := 2) dX10_freedShare_26 (by decide) ?_
  refine zr_iconst (v := 2) dX10_freedShare_27 (by decide) ?_
  refine zr_pVi [] dX10_freedShare_28 vX10_222 (qX10_with hX (vl := 2) (vh := 2) g0_kr1 kh2 gr hA) g0_kr1 (by decide) (by decide) (by decide) rfl rfl (Nat.le_of_ble_eq_true rfl) (by decide) rfl ?_
  refine zr_eqi (x' := (nI ((zCt (fun i => decide (¬ kR A i = -1)) (kC A)) - (zCt (fun i => decide (¬ zvt A i = 0)) (kC A))))) (congrArg nI (zw22 A)) ?_
  refine zr_i2f dX10_freedShare_31 ?_
  refine zr_aload_n dX10_freedShare_32 rfl ?_
  refine zr_iconst (v := 1) dX10_freedShare_33 (by decide) ?_
  refine zr_iconst (v := 2) dX10_freedShare_34 (by decide) ?_
  refine zr_pVi [.float ((FP.i2f (nI ((zCt (fun i => decide (¬ kR A i = -1)) (kC A)) - (zCt (fun i => decide (¬ zvt A i = 0)) (kC A))))))] dX10_freedShare_35 vX10_222 (qX10_with hX (vl := 1) (vh := 2) g0_kr1 kh2 gr hA) g0_kr1 (by decide) (by decide) (by decide) rfl rfl (Nat.le_of_ble_eq_true rfl) (by decide) rfl ?_
  refine zr_eqi (x' := (nI (zCt (fun i => decide (¬ kR A i = -1)) (kC A)))) (congrArg nI (zw12 A)) ?_
  refine zr_i2f dX10_freedShare_38 ?_
  refine zr_fdiv dX10_freedShare_39 (vn32 _ (by omega) _ (by omega) (by omega)) ?_
  exact zr_freturn dX10_freedShare_40 rfl (⟨_, rfl, rfl, kF13, ⟨_, _, _, _, _, _, _, _, g0_kr1, ⟨f4, f5, f6, rfl, rfl, f9, f10, f11, f13, f14, f16, f27⟩, kh2, kh3, kh4, kh5, kh6, kh7, kh8, kR9, kR10, kR11, kR12, gr, gS, gK, hm8, gU, hn60, hT, hll, hln⟩⟩)

set_option maxHeartbeats 400000 in
set_option maxRecDepth 100000 in
theorem qX10_freedShareN {X : zX} (hX : X.1.stackTraces = false) {σ : zS} {y : Nat} {w tm cd dn : Int32} {K : zDk} {A S : zDk} {m : Nat} {U : Nat → zDk} {n : Nat} {T : Nat → Int32} {ll : Nat} {ln : Nat → Int32} {hs kf ld dt dc : Int32} (hM : zMo y w tm cd dn K A S m U n T ll ln hs kf ld dt dc σ) (gA : zGd A) (hd0 : (zCt (fun i => decide (¬ kR A i = -1)) (kC A)) = 0) : zMet X mX10_freedShare yX10_freedShare 4 0 0 [.ref y] σ (zF (fun y_ s => True ∧ zFr σ s (zMq y) ∧ zMo y w tm 1 0 K A S m U n T ll ln hs kf ld dt dc s)) := by
  refine zMet_of (ls := [some (.ref y)]) rfl (by decide +kernel) rfl (fun h => by cases h) hX (Nat.le_of_ble_eq_true rfl) rfl ?_
  obtain ⟨F, g, kp, sv, bf, ip, sg, td, h0, hf, h1, h2, h3, h4, h5, h6, h11, hWa, hC, hX9, hOt, gr, gS, gK, hm8, gU, hn60, hT, hll, hln⟩ := id hM
  obtain ⟨f4, f5, f6, f7, f8, f9, f10, f11, f13, f14, f16, f27⟩ := id hf
  have hA := gA.1
  obtain ⟨r0, r1, rc, rp⟩ := id gr
  obtain ⟨hC8, hP8, hW⟩ := id hA
  have d1 := zCt_le (fun i => decide (¬ kR A i = -1)) (kC A)
  have d2 := zCt_tg A (kC A)
  refine zr_aload_n dX10_freedShare_0 rfl ?_
  refine zr_aload_n dX10_freedShare_1 rfl ?_
  refine zr_iconst (v := 1) dX10_freedShare_2 (by decide) ?_
  refine zr_iconst (v := 2) dX10_freedShare_3 (by decide) ?_
  refine zr_pVi [.ref y] dX10_freedShare_4 vX10_222 (qX10_with hX (vl := 1) (vh := 2) h0 h1 gr hA) h0 (by decide) (by decide) (by decide) rfl rfl (Nat.le_of_ble_eq_true rfl) (by decide) rfl ?_
  refine zr_eqi (x' := nI (zCt (fun i => decide (¬ kR A i = -1)) (kC A))) (congrArg nI (zw12 A)) ?_
  refine zr_if_ne (tgt := 14) dX10_freedShare_7 (by decide) (fun c_7 => absurd (by rw [hd0]; rfl) c_7) (fun c_7 => ?_)
  refine zr_iconst (v := 1) dX10_freedShare_10 (by decide) ?_
  refine zr_goto (tgt := 15) dX10_freedShare_11 (by decide) ?_
  refine zr_callVi [] dX10_freedShare_15 vX10_135 (qX10_fails hX (p := 1) h0) h0 (by decide) (by decide) (by decide) rfl rfl (Nat.le_of_ble_eq_true rfl) (by decide) rfl (fun kr1 s_kr1 h_kr1 => ?_)
  obtain ⟨e_kr1, F_kr1, g0_kr1⟩ := h_kr1
  have kh2 : s_kr1.1 (y + 1) = .inl (0, 82, .inl g) := zFr.get F_kr1 (by omega) h1
  have kh3 : s_kr1.1 (y + 2) = .inl (0, 656, .inl kp) := zFr.get F_kr1 (by omega) h2
  have kh4 : s_kr1.1 (y + 3) = .inl (0, 82, .inl sv) := zFr.get F_kr1 (by omega) h3
  have kh5 : s_kr1.1 (y + 4) = .inl (0, 82, .inl bf) := zFr.get F_kr1 (by omega) h4
  have kh6 : s_kr1.1 (y + 5) = .inl (0, 60, .inl ip) := zFr.get F_kr1 (by omega) h5
  have kh7 : s_kr1.1 (y + 6) = .inl (1, 400, .inl sg) := zFr.get F_kr1 (by omega) h6
  have kh8 : s_kr1.1 (y + 11) = .inl (0, 93, .inl td) := zFr.get F_kr1 (by omega) h11
  have kR9 : zWa y s_kr1 := zWa.fr hWa F_kr1 (by intro q h1 h2 h3; (try simp only [zIn, zJf] at h3); omega)
  have kR10 : zCy y s_kr1 := zCy.fr hC F_kr1 (by intro q h1 h2 h3; (try simp only [zIn, zJf] at h3); omega)
  have kR11 : zXa y s_kr1 := zXa.fr hX9 F_kr1 (by intro q h1 h2 h3; (try simp only [zIn, zJf] at h3); omega)
  have kR12 : zOa y s_kr1 := zOa.fr hOt F_kr1 (by intro q h1 h2 h3; (try simp only [zIn, zJf] at h3); omega)
  have kF13 := zFr.tr zFr.rf (P := zMq y) F_kr1 (by intro q hq; unfold zMq; omega)
  replace e_kr1 := e_kr1.trans (if_neg (by decide) : (_ : Int32) = 1)
  obtain rfl := e_kr1.symm
  refine zr_if_eq (tgt := 25) dX10_freedShare_18 (by decide) (fun c_18 => absurd c_18 (by decide)) (fun c_18 => ?_)
  refine zr_fconst0 dX10_freedShare_21 ?_
  refine zr_goto (tgt := 40) dX10_freedShare_22 (by decide) ?_
  exact zr_freturn dX10_freedShare_40 rfl (⟨_, rfl, trivial, kF13, ⟨_, _, _, _, _, _, _, _, g0_kr1, ⟨f4, f5, f6, rfl, rfl, f9, f10, f11, f13, f14, f16, f27⟩, kh2, kh3, kh4, kh5, kh6, kh7, kh8, kR9, kR10, kR11, kR12, gr, gS, gK, hm8, gU, hn60, hT, hll, hln⟩⟩)

theorem zne1 (x : Int32) : ¬ x = x + 1 := by
  intro h
  have := congrArg (fun z => z - x) h
  simp only [Int32.sub_self, Int32.add_comm x 1, Int32.add_sub_cancel] at this
  exact absurd this (by decide)
theorem zcr_iff (i a b : Int32) : (¬ a = b ∧ zpa i a = b) ↔ ((a = i ∧ b = i + 1) ∨ (a = i + 1 ∧ b = i)) := by
  unfold zpa
  by_cases h : a = i
  · rw [if_pos h]
    constructor
    · exact fun q => Or.inl ⟨h, q.2.symm⟩
    · rintro (q | q)
      · exact ⟨by rw [h, q.2]; exact zne1 i, q.2.symm⟩
      · exact absurd (h.symm.trans q.1) (zne1 i)
  · rw [if_neg h]
    by_cases h2 : a = i + 1
    · rw [if_pos h2]
      constructor
      · exact fun q => Or.inr ⟨h2, q.2.symm⟩
      · rintro (q | q)
        · exact absurd q.1 h
        · exact ⟨by rw [h2, q.2]; exact fun z => zne1 i z.symm, q.2.symm⟩
    · rw [if_neg h2]
      constructor
      · exact fun q => absurd q.2 q.1
      · rintro (q | q)
        · exact absurd q.1 h
        · exact absurd q.1 h2
set_option maxHeartbeats 400000 in
set_option maxRecDepth 100000 in
theorem l_cr2 {X : zX} (hX : X.1.stackTraces = false) {σ : zS} {y : Nat} {F : Nat → Int32} {g : Nat → Int32} {A : zDk} {i : Nat} {p p2 : Int32} {a b u : Int32} {k : Nat} (h0 : σ.1 y = zmO y F) (h1 : σ.1 (y + 1) = .inl (0, 82, .inl g)) (gr : zGr A g) (hA : zDw A) (hi : i < kC A) (hk : k < kN A i) (kk : ∀ x8 x9 : Option Value, zW X mX10_crossings 4 0 0 (zI (fun y_ s_ => y_ = (zCr (kL A i) p p2 (kN A i)).2.2 ∧ s_ = σ)) 52 [some (.ref y), some (.int (nI i)), some (.int p), some (.int p2), some (.int (zpa (zix (kL A i k)) a)), some (.int (zpa (zix (kL A i k)) b)), some (.int u), some (.int (nI (k + 1))), x8, x9] [] σ) : zW X mX10_crossings 4 0 0 (zI (fun y_ s_ => y_ = (zCr (kL A i) p p2 (kN A i)).2.2 ∧ s_ = σ)) 129 [some (.ref y), some (.int (nI i)), some (.int p), some (.int p2), some (.int a), some (.int b), some (.int u), some (.int (nI k)), some (.int ((kL A i k))), some (.int ((zix (kL A i k))))] [] σ := by
  refine zr_iload dX10_crossings_129 rfl ?_
  refine zr_iload dX10_crossings_131 rfl ?_
  refine zr_icmp_ne (tgt := 143) dX10_crossings_133 (by decide) (fun c_133 => ?_) (fun c_133 => ?_)
  · refine zr_iload dX10_crossings_143 rfl ?_
    refine zr_iload dX10_crossings_145 rfl ?_
    refine zr_iconst (v := 1) dX10_crossings_147 (by decide) ?_
    refine zr_iadd dX10_crossings_148 ?_
    refine zr_icmp_ne (tgt := 157) dX10_crossings_149 (by decide) (fun c_149 => ?_) (fun c_149 => ?_)
    · refine zr_iload dX10_crossings_157 rfl ?_
      refine zr_istore (ls' := [some (.ref y), some (.int (nI i)), some (.int p), some (.int p2), some (.int a), some (.int b), some (.int u), some (.int (nI k)), some (.int ((kL A i k))), some (.int ((zix (kL A i k))))]) dX10_crossings_159 (by decide) rfl ?_
      refine zr_iload dX10_crossings_161 rfl ?_
      refine zr_iload dX10_crossings_163 rfl ?_
      refine zr_icmp_ne (tgt := 175) dX10_crossings_165 (by decide) (fun c_165 => ?_) (fun c_165 => ?_)
      · refine zr_iload dX10_crossings_175 rfl ?_
        refine zr_iload dX10_crossings_177 rfl ?_
        refine zr_iconst (v := 1) dX10_crossings_179 (by decide) ?_
        refine zr_iadd dX10_crossings_180 ?_
        refine zr_icmp_ne (tgt := 189) dX10_crossings_181 (by decide) (fun c_181 => ?_) (fun c_181 => ?_)
        · refine zr_iload dX10_crossings_189 rfl ?_
          refine zr_istore (ls' := [some (.ref y), some (.int (nI i)), some (.int p), some (.int p2), some (.int a), some (.int b), some (.int u), some (.int (nI k)), some (.int ((kL A i k))), some (.int ((zix (kL A i k))))]) dX10_crossings_191 (by decide) rfl ?_
          refine zr_iinc (v := nI (k + 1)) (ls' := [some (.ref y), some (.int (nI i)), some (.int p), some (.int p2), some (.int a), some (.int b), some (.int u), some (.int (nI (k + 1))), some (.int ((kL A i k))), some (.int ((zix (kL A i k))))]) dX10_crossings_193 rfl (nI_1 _) (by decide) rfl ?_
          refine zr_goto (tgt := 52) dX10_crossings_196 (by decide) ?_
          have ea : zpa (zix (kL A i k)) a = a := by unfold zpa; rw [if_neg c_133, if_neg c_149]
          have eb : zpa (zix (kL A i k)) b = b := by unfold zpa; rw [if_neg c_165, if_neg c_181]
          have z := kk (some (.int (kL A i k))) (some (.int (zix (kL A i k)))); rw [ea, eb] at z; exact z
        · refine zr_iload dX10_crossings_184 rfl ?_
          refine zr_goto (tgt := 191) dX10_crossings_186 (by decide) ?_
          refine zr_istore (ls' := [some (.ref y), some (.int (nI i)), some (.int p), some (.int p2), some (.int a), some (.int ((zix (kL A i k)))), some (.int u), some (.int (nI k)), some (.int ((kL A i k))), some (.int ((zix (kL A i k))))]) dX10_crossings_191 (by decide) rfl ?_
          refine zr_iinc (v := nI (k + 1)) (ls' := [some (.ref y), some (.int (nI i)), some (.int p), some (.int p2), some (.int a), some (.int ((zix (kL A i k)))), some (.int u), some (.int (nI (k + 1))), some (.int ((kL A i k))), some (.int ((zix (kL A i k))))]) dX10_crossings_193 rfl (nI_1 _) (by decide) rfl ?_
          refine zr_goto (tgt := 52) dX10_crossings_196 (by decide) ?_
          have ea : zpa (zix (kL A i k)) a = a := by unfold zpa; rw [if_neg c_133, if_neg c_149]
          have eb : zpa (zix (kL A i k)) b = (zix (kL A i k)) := by unfold zpa; rw [if_neg c_165, if_pos c_181]
          have z := kk (some (.int (kL A i k))) (some (.int (zix (kL A i k)))); rw [ea, eb] at z; exact z
      · refine zr_iload dX10_crossings_168 rfl ?_
        refine zr_iconst (v := 1) dX10_crossings_170 (by decide) ?_
        refine zr_iadd dX10_crossings_171 ?_
        refine zr_goto (tgt := 191) dX10_crossings_172 (by decide) ?_
        refine zr_istore (ls' := [some (.ref y), some (.int (nI i)), some (.int p), some (.int p2), some (.int a), some (.int (((zix (kL A i k)) + 1))), some (.int u), some (.int (nI k)), some (.int ((kL A i k))), some (.int ((zix (kL A i k))))]) dX10_crossings_191 (by decide) rfl ?_
        refine zr_iinc (v := nI (k + 1)) (ls' := [some (.ref y), some (.int (nI i)), some (.int p), some (.int p2), some (.int a), some (.int (((zix (kL A i k)) + 1))), some (.int u), some (.int (nI (k + 1))), some (.int ((kL A i k))), some (.int ((zix (kL A i k))))]) dX10_crossings_193 rfl (nI_1 _) (by decide) rfl ?_
        refine zr_goto (tgt := 52) dX10_crossings_196 (by decide) ?_
        have ea : zpa (zix (kL A i k)) a = a := by unfold zpa; rw [if_neg c_133, if_neg c_149]
        have eb : zpa (zix (kL A i k)) b = ((zix (kL A i k)) + 1) := by unfold zpa; rw [if_pos c_165]
        have z := kk (some (.int (kL A i k))) (some (.int (zix (kL A i k)))); rw [ea, eb] at z; exact z
    · refine zr_iload dX10_crossings_152 rfl ?_
      refine zr_goto (tgt := 159) dX10_crossings_154 (by decide) ?_
      refine zr_istore (ls' := [some (.ref y), some (.int (nI i)), some (.int p), some (.int p2), some (.int ((zix (kL A i k)))), some (.int b), some (.int u), some (.int (nI k)), some (.int ((kL A i k))), some (.int ((zix (kL A i k))))]) dX10_crossings_159 (by decide) rfl ?_
      refine zr_iload dX10_crossings_161 rfl ?_
      refine zr_iload dX10_crossings_163 rfl ?_
      refine zr_icmp_ne (tgt := 175) dX10_crossings_165 (by decide) (fun c_165 => ?_) (fun c_165 => ?_)
      · refine zr_iload dX10_crossings_175 rfl ?_
        refine zr_iload dX10_crossings_177 rfl ?_
        refine zr_iconst (v := 1) dX10_crossings_179 (by decide) ?_
        refine zr_iadd dX10_crossings_180 ?_
        refine zr_icmp_ne (tgt := 189) dX10_crossings_181 (by decide) (fun c_181 => ?_) (fun c_181 => ?_)
        · refine zr_iload dX10_crossings_189 rfl ?_
          refine zr_istore (ls' := [some (.ref y), some (.int (nI i)), some (.int p), some (.int p2), some (.int ((zix (kL A i k)))), some (.int b), some (.int u), some (.int (nI k)), some (.int ((kL A i k))), some (.int ((zix (kL A i k))))]) dX10_crossings_191 (by decide) rfl ?_
          refine zr_iinc (v := nI (k + 1)) (ls' := [some (.ref y), some (.int (nI i)), some (.int p), some (.int p2), some (.int ((zix (kL A i k)))), some (.int b), some (.int u), some (.int (nI (k + 1))), some (.int ((kL A i k))), some (.int ((zix (kL A i k))))]) dX10_crossings_193 rfl (nI_1 _) (by decide) rfl ?_
          refine zr_goto (tgt := 52) dX10_crossings_196 (by decide) ?_
          have ea : zpa (zix (kL A i k)) a = (zix (kL A i k)) := by unfold zpa; rw [if_neg c_133, if_pos c_149]
          have eb : zpa (zix (kL A i k)) b = b := by unfold zpa; rw [if_neg c_165, if_neg c_181]
          have z := kk (some (.int (kL A i k))) (some (.int (zix (kL A i k)))); rw [ea, eb] at z; exact z
        · refine zr_iload dX10_crossings_184 rfl ?_
          refine zr_goto (tgt := 191) dX10_crossings_186 (by decide) ?_
          refine zr_istore (ls' := [some (.ref y), some (.int (nI i)), some (.int p), some (.int p2), some (.int ((zix (kL A i k)))), some (.int ((zix (kL A i k)))), some (.int u), some (.int (nI k)), some (.int ((kL A i k))), some (.int ((zix (kL A i k))))]) dX10_crossings_191 (by decide) rfl ?_
          refine zr_iinc (v := nI (k + 1)) (ls' := [some (.ref y), some (.int (nI i)), some (.int p), some (.int p2), some (.int ((zix (kL A i k)))), some (.int ((zix (kL A i k)))), some (.int u), some (.int (nI (k + 1))), some (.int ((kL A i k))), some (.int ((zix (kL A i k))))]) dX10_crossings_193 rfl (nI_1 _) (by decide) rfl ?_
          refine zr_goto (tgt := 52) dX10_crossings_196 (by decide) ?_
          have ea : zpa (zix (kL A i k)) a = (zix (kL A i k)) := by unfold zpa; rw [if_neg c_133, if_pos c_149]
          have eb : zpa (zix (kL A i k)) b = (zix (kL A i k)) := by unfold zpa; rw [if_neg c_165, if_pos c_181]
          have z := kk (some (.int (kL A i k))) (some (.int (zix (kL A i k)))); rw [ea, eb] at z; exact z
      · refine zr_iload dX10_crossings_168 rfl ?_
        refine zr_iconst (v := 1) dX10_crossings_170 (by decide) ?_
        refine zr_iadd dX10_crossings_171 ?_
        refine zr_goto (tgt := 191) dX10_crossings_172 (by decide) ?_
        refine zr_istore (ls' := [some (.ref y), some (.int (nI i)), some (.int p), some (.int p2), some (.int ((zix (kL A i k)))), some (.int (((zix (kL A i k)) + 1))), some (.int u), some (.int (nI k)), some (.int ((kL A i k))), some (.int ((zix (kL A i k))))]) dX10_crossings_191 (by decide) rfl ?_
        refine zr_iinc (v := nI (k + 1)) (ls' := [some (.ref y), some (.int (nI i)), some (.int p), some (.int p2), some (.int ((zix (kL A i k)))), some (.int (((zix (kL A i k)) + 1))), some (.int u), some (.int (nI (k + 1))), some (.int ((kL A i k))), some (.int ((zix (kL A i k))))]) dX10_crossings_193 rfl (nI_1 _) (by decide) rfl ?_
        refine zr_goto (tgt := 52) dX10_crossings_196 (by decide) ?_
        have ea : zpa (zix (kL A i k)) a = (zix (kL A i k)) := by unfold zpa; rw [if_neg c_133, if_pos c_149]
        have eb : zpa (zix (kL A i k)) b = ((zix (kL A i k)) + 1) := by unfold zpa; rw [if_pos c_165]
        have z := kk (some (.int (kL A i k))) (some (.int (zix (kL A i k)))); rw [ea, eb] at z; exact z
  · refine zr_iload dX10_crossings_136 rfl ?_
    refine zr_iconst (v := 1) dX10_crossings_138 (by decide) ?_
    refine zr_iadd dX10_crossings_139 ?_
    refine zr_goto (tgt := 159) dX10_crossings_140 (by decide) ?_
    refine zr_istore (ls' := [some (.ref y), some (.int (nI i)), some (.int p), some (.int p2), some (.int (((zix (kL A i k)) + 1))), some (.int b), some (.int u), some (.int (nI k)), some (.int ((kL A i k))), some (.int ((zix (kL A i k))))]) dX10_crossings_159 (by decide) rfl ?_
    refine zr_iload dX10_crossings_161 rfl ?_
    refine zr_iload dX10_crossings_163 rfl ?_
    refine zr_icmp_ne (tgt := 175) dX10_crossings_165 (by decide) (fun c_165 => ?_) (fun c_165 => ?_)
    · refine zr_iload dX10_crossings_175 rfl ?_
      refine zr_iload dX10_crossings_177 rfl ?_
      refine zr_iconst (v := 1) dX10_crossings_179 (by decide) ?_
      refine zr_iadd dX10_crossings_180 ?_
      refine zr_icmp_ne (tgt := 189) dX10_crossings_181 (by decide) (fun c_181 => ?_) (fun c_181 => ?_)
      · refine zr_iload dX10_crossings_189 rfl ?_
        refine zr_istore (ls' := [some (.ref y), some (.int (nI i)), some (.int p), some (.int p2), some (.int (((zix (kL A i k)) + 1))), some (.int b), some (.int u), some (.int (nI k)), some (.int ((kL A i k))), some (.int ((zix (kL A i k))))]) dX10_crossings_191 (by decide) rfl ?_
        refine zr_iinc (v := nI (k + 1)) (ls' := [some (.ref y), some (.int (nI i)), some (.int p), some (.int p2), some (.int (((zix (kL A i k)) + 1))), some (.int b), some (.int u), some (.int (nI (k + 1))), some (.int ((kL A i k))), some (.int ((zix (kL A i k))))]) dX10_crossings_193 rfl (nI_1 _) (by decide) rfl ?_
        refine zr_goto (tgt := 52) dX10_crossings_196 (by decide) ?_
        have ea : zpa (zix (kL A i k)) a = ((zix (kL A i k)) + 1) := by unfold zpa; rw [if_pos c_133]
        have eb : zpa (zix (kL A i k)) b = b := by unfold zpa; rw [if_neg c_165, if_neg c_181]
        have z := kk (some (.int (kL A i k))) (some (.int (zix (kL A i k)))); rw [ea, eb] at z; exact z
      · refine zr_iload dX10_crossings_184 rfl ?_
        refine zr_goto (tgt := 191) dX10_crossings_186 (by decide) ?_
        refine zr_istore (ls' := [some (.ref y), some (.int (nI i)), some (.int p), some (.int p2), some (.int (((zix (kL A i k)) + 1))), some (.int ((zix (kL A i k)))), some (.int u), some (.int (nI k)), some (.int ((kL A i k))), some (.int ((zix (kL A i k))))]) dX10_crossings_191 (by decide) rfl ?_
        refine zr_iinc (v := nI (k + 1)) (ls' := [some (.ref y), some (.int (nI i)), some (.int p), some (.int p2), some (.int (((zix (kL A i k)) + 1))), some (.int ((zix (kL A i k)))), some (.int u), some (.int (nI (k + 1))), some (.int ((kL A i k))), some (.int ((zix (kL A i k))))]) dX10_crossings_193 rfl (nI_1 _) (by decide) rfl ?_
        refine zr_goto (tgt := 52) dX10_crossings_196 (by decide) ?_
        have ea : zpa (zix (kL A i k)) a = ((zix (kL A i k)) + 1) := by unfold zpa; rw [if_pos c_133]
        have eb : zpa (zix (kL A i k)) b = (zix (kL A i k)) := by unfold zpa; rw [if_neg c_165, if_pos c_181]
        have z := kk (some (.int (kL A i k))) (some (.int (zix (kL A i k)))); rw [ea, eb] at z; exact z
    · refine zr_iload dX10_crossings_168 rfl ?_
      refine zr_iconst (v := 1) dX10_crossings_170 (by decide) ?_
      refine zr_iadd dX10_crossings_171 ?_
      refine zr_goto (tgt := 191) dX10_crossings_172 (by decide) ?_
      refine zr_istore (ls' := [some (.ref y), some (.int (nI i)), some (.int p), some (.int p2), some (.int (((zix (kL A i k)) + 1))), some (.int (((zix (kL A i k)) + 1))), some (.int u), some (.int (nI k)), some (.int ((kL A i k))), some (.int ((zix (kL A i k))))]) dX10_crossings_191 (by decide) rfl ?_
      refine zr_iinc (v := nI (k + 1)) (ls' := [some (.ref y), some (.int (nI i)), some (.int p), some (.int p2), some (.int (((zix (kL A i k)) + 1))), some (.int (((zix (kL A i k)) + 1))), some (.int u), some (.int (nI (k + 1))), some (.int ((kL A i k))), some (.int ((zix (kL A i k))))]) dX10_crossings_193 rfl (nI_1 _) (by decide) rfl ?_
      refine zr_goto (tgt := 52) dX10_crossings_196 (by decide) ?_
      have ea : zpa (zix (kL A i k)) a = ((zix (kL A i k)) + 1) := by unfold zpa; rw [if_pos c_133]
      have eb : zpa (zix (kL A i k)) b = ((zix (kL A i k)) + 1) := by unfold zpa; rw [if_pos c_165]
      have z := kk (some (.int (kL A i k))) (some (.int (zix (kL A i k)))); rw [ea, eb] at z; exact z

set_option maxHeartbeats 400000 in
set_option maxRecDepth 100000 in
theorem l_cr1 {X : zX} (hX : X.1.stackTraces = false) {σ : zS} {y : Nat} {F : Nat → Int32} {g : Nat → Int32} {A : zDk} {i : Nat} {p p2 : Int32} (h0 : σ.1 y = zmO y F) (h1 : σ.1 (y + 1) = .inl (0, 82, .inl g)) (gr : zGr A g) (hA : zDw A) (hi : i < kC A) : ∀ (j k : Nat) (a : Int32) (b : Int32) (u : Int32) (x8 x9 : Option Value), k + j = (kN A i) → (a = (zCr (kL A i) p p2 k).1) → (b = (zCr (kL A i) p p2 k).2.1) → (u = (zCr (kL A i) p p2 k).2.2) → zW X mX10_crossings 4 0 0 ((zI (fun y_ s_ => y_ = (zCr (kL A i) p p2 (kN A i)).2.2 ∧ s_ = σ))) 52 [some (.ref y), some (.int (nI i)), some (.int p), some (.int p2), some (.int a), some (.int b), some (.int u), some (.int (nI k)), x8, x9] [] σ := by
  intro j
  induction j with
  | zero =>
    intro k a b u x8 x9 hk hx1 hx2 hx3
    obtain ⟨r0, r1, rc, rp⟩ := id gr
    obtain ⟨hC8, hP8, hW⟩ := id hA
    have n16 := (hW i (by omega)).1
    refine zr_iload dX10_crossings_52 rfl ?_
    refine zr_aload_n dX10_crossings_54 rfl ?_
    refine zr_iload_n dX10_crossings_55 rfl ?_
    refine zr_iconst (v := 0) dX10_crossings_56 (by decide) ?_
    refine zr_pVi [.int (nI k)] dX10_crossings_57 vX10_149 (qX10_of hX (i := i) (k := 0) h0 h1 (by omega)) h0 (by decide) (by decide) (by decide) rfl rfl (Nat.le_of_ble_eq_true rfl) (by decide) rfl ?_
    refine zr_eqi (x' := nI (kN A i)) ((rc i hi).1) ?_
    refine zr_icmp_ge (tgt := 199) dX10_crossings_60 (by decide) (fun c_60 => ?_) (fun c_60 => absurd ((nI_leI (a := kN A i) (b := k) (by omega) (by omega)).mpr (by omega)) c_60)
    refine zr_iload dX10_crossings_199 rfl ?_
    exact zr_ireturn dX10_crossings_201 rfl (rfl) (by have e1 : k = kN A i := (by omega); rw [← e1]; exact ⟨_, rfl, hx3, rfl⟩)
  | succ j ih =>
    intro k a b u x8 x9 hk hx1 hx2 hx3
    obtain ⟨r0, r1, rc, rp⟩ := id gr
    obtain ⟨hC8, hP8, hW⟩ := id hA
    have n16 := (hW i (by omega)).1
    refine zr_iload dX10_crossings_52 rfl ?_
    refine zr_aload_n dX10_crossings_54 rfl ?_
    refine zr_iload_n dX10_crossings_55 rfl ?_
    refine zr_iconst (v := 0) dX10_crossings_56 (by decide) ?_
    refine zr_pVi [.int (nI k)] dX10_crossings_57 vX10_149 (qX10_of hX (i := i) (k := 0) h0 h1 (by omega)) h0 (by decide) (by decide) (by decide) rfl rfl (Nat.le_of_ble_eq_true rfl) (by decide) rfl ?_
    refine zr_eqi (x' := nI (kN A i)) ((rc i hi).1) ?_
    refine zr_icmp_ge (tgt := 199) dX10_crossings_60 (by decide) (fun c_60 => absurd c_60 (fun h => absurd ((nI_leI (a := kN A i) (b := k) (by omega) (by omega)).mp h) (by omega))) (fun c_60 => ?_)
    refine zr_aload_n dX10_crossings_63 rfl ?_
    refine zr_iload_n dX10_crossings_64 rfl ?_
    refine zr_pSi [.ref y] dX10_crossings_65 vX10_138 (qX10_caseAt hX (i := i)) (by decide) (by decide) (by decide) rfl rfl (Nat.le_of_ble_eq_true rfl) rfl ?_
    refine zr_iload dX10_crossings_68 rfl ?_
    refine zr_pVi [] dX10_crossings_70 vX10_86 (qX10_letter hX (w := 2 + 5 * i) (k := k) h0 h1 (by omega) (by omega)) h0 (by decide) (by decide) (by decide) rfl rfl (Nat.le_of_ble_eq_true rfl) (by decide) rfl ?_
    refine zr_eqi (x' := (kL A i k)) ((rc i hi).2.2.2 k (by omega)) ?_
    refine zr_istore (ls' := [some (.ref y), some (.int (nI i)), some (.int p), some (.int p2), some (.int a), some (.int b), some (.int u), some (.int (nI k)), some (.int ((kL A i k))), x9]) dX10_crossings_73 (by decide) rfl ?_
    refine zr_iload dX10_crossings_75 rfl ?_
    refine zr_pSi [] dX10_crossings_77 vX10_97 (qX10_size hX (v := (kL A i k))) (by decide) (by decide) (by decide) rfl rfl (Nat.le_of_ble_eq_true rfl) rfl ?_
    refine zr_istore (ls' := [some (.ref y), some (.int (nI i)), some (.int p), some (.int p2), some (.int a), some (.int b), some (.int u), some (.int (nI k)), some (.int ((kL A i k))), some (.int ((zix (kL A i k))))]) dX10_crossings_80 (by decide) rfl ?_
    refine zr_iload dX10_crossings_82 rfl ?_
    refine zr_iload dX10_crossings_84 rfl ?_
    refine zr_icmp_ne (tgt := 98) dX10_crossings_86 (by decide) (fun c_86 => ?_) (fun c_86 => ?_)
    · refine zr_iload dX10_crossings_98 rfl ?_
      refine zr_iload dX10_crossings_100 rfl ?_
      refine zr_iconst (v := 1) dX10_crossings_102 (by decide) ?_
      refine zr_iadd dX10_crossings_103 ?_
      refine zr_icmp_ne (tgt := 129) dX10_crossings_104 (by decide) (fun c_104 => ?_) (fun c_104 => ?_)
      · exact l_cr2 hX h0 h1 gr hA hi (by omega) (fun x8 x9 => ih (k + 1) _ _ _ x8 x9 (by omega) (by simp only [zCr]; rw [← hx1]) (by simp only [zCr]; rw [← hx2]) (by show u = (if _ then _ else _); rw [← hx1, ← hx2, if_neg (fun z => (fun q => q.elim (fun z => c_86 z.1) (fun z => c_104 z.1)) ((zcr_iff _ _ _).mp z)), ← hx3]))
      · refine zr_iload dX10_crossings_107 rfl ?_
        refine zr_iload dX10_crossings_109 rfl ?_
        refine zr_icmp_ne (tgt := 129) dX10_crossings_111 (by decide) (fun c_111 => ?_) (fun c_111 => ?_)
        · exact l_cr2 hX h0 h1 gr hA hi (by omega) (fun x8 x9 => ih (k + 1) _ _ _ x8 x9 (by omega) (by simp only [zCr]; rw [← hx1]) (by simp only [zCr]; rw [← hx2]) (by show u = (if _ then _ else _); rw [← hx1, ← hx2, if_neg (fun z => (fun q => q.elim (fun z => c_86 z.1) (fun z => c_111 z.2)) ((zcr_iff _ _ _).mp z)), ← hx3]))
        · refine zr_iload dX10_crossings_114 rfl ?_
          refine zr_iload dX10_crossings_116 rfl ?_
          refine zr_if_le (tgt := 125) dX10_crossings_118 (by decide) (fun c_118 => ?_) (fun c_118 => ?_)
          · refine zr_iconst (v := -1) dX10_crossings_125 (by decide) ?_
            refine zr_iadd dX10_crossings_126 ?_
            refine zr_istore (ls' := [some (.ref y), some (.int (nI i)), some (.int p), some (.int p2), some (.int a), some (.int b), some (.int ((u + (-1)))), some (.int (nI k)), some (.int ((kL A i k))), some (.int ((zix (kL A i k))))]) dX10_crossings_127 (by decide) rfl ?_
            exact l_cr2 hX h0 h1 gr hA hi (by omega) (fun x8 x9 => ih (k + 1) _ _ _ x8 x9 (by omega) (by simp only [zCr]; rw [← hx1]) (by simp only [zCr]; rw [← hx2]) (by show u + _ = (if _ then _ else _); rw [← hx1, ← hx2, if_pos ((zcr_iff _ _ _).mpr (Or.inr ⟨c_104, c_111⟩)), ← hx3, zr_sg0 ((hW i (by omega)).2.1 k (by omega)) c_118]))
          · refine zr_iconst (v := 1) dX10_crossings_121 (by decide) ?_
            refine zr_goto (tgt := 126) dX10_crossings_122 (by decide) ?_
            refine zr_iadd dX10_crossings_126 ?_
            refine zr_istore (ls' := [some (.ref y), some (.int (nI i)), some (.int p), some (.int p2), some (.int a), some (.int b), some (.int ((u + 1))), some (.int (nI k)), some (.int ((kL A i k))), some (.int ((zix (kL A i k))))]) dX10_crossings_127 (by decide) rfl ?_
            exact l_cr2 hX h0 h1 gr hA hi (by omega) (fun x8 x9 => ih (k + 1) _ _ _ x8 x9 (by omega) (by simp only [zCr]; rw [← hx1]) (by simp only [zCr]; rw [← hx2]) (by show u + _ = (if _ then _ else _); rw [← hx1, ← hx2, if_pos ((zcr_iff _ _ _).mpr (Or.inr ⟨c_104, c_111⟩)), ← hx3, zr_sg1 ((hW i (by omega)).2.1 k (by omega)) c_118]))
    · refine zr_iload dX10_crossings_89 rfl ?_
      refine zr_iload dX10_crossings_91 rfl ?_
      refine zr_iconst (v := 1) dX10_crossings_93 (by decide) ?_
      refine zr_iadd dX10_crossings_94 ?_
      refine zr_icmp_eq (tgt := 114) dX10_crossings_95 (by decide) (fun c_95 => ?_) (fun c_95 => ?_)
      · refine zr_iload dX10_crossings_114 rfl ?_
        refine zr_iload dX10_crossings_116 rfl ?_
        refine zr_if_le (tgt := 125) dX10_crossings_118 (by decide) (fun c_118 => ?_) (fun c_118 => ?_)
        · refine zr_iconst (v := -1) dX10_crossings_125 (by decide) ?_
          refine zr_iadd dX10_crossings_126 ?_
          refine zr_istore (ls' := [some (.ref y), some (.int (nI i)), some (.int p), some (.int p2), some (.int a), some (.int b), some (.int ((u + (-1)))), some (.int (nI k)), some (.int ((kL A i k))), some (.int ((zix (kL A i k))))]) dX10_crossings_127 (by decide) rfl ?_
          exact l_cr2 hX h0 h1 gr hA hi (by omega) (fun x8 x9 => ih (k + 1) _ _ _ x8 x9 (by omega) (by simp only [zCr]; rw [← hx1]) (by simp only [zCr]; rw [← hx2]) (by show u + _ = (if _ then _ else _); rw [← hx1, ← hx2, if_pos ((zcr_iff _ _ _).mpr (Or.inl ⟨c_86, c_95⟩)), ← hx3, zr_sg0 ((hW i (by omega)).2.1 k (by omega)) c_118]))
        · refine zr_iconst (v := 1) dX10_crossings_121 (by decide) ?_
          refine zr_goto (tgt := 126) dX10_crossings_122 (by decide) ?_
          refine zr_iadd dX10_crossings_126 ?_
          refine zr_istore (ls' := [some (.ref y), some (.int (nI i)), some (.int p), some (.int p2), some (.int a), some (.int b), some (.int ((u + 1))), some (.int (nI k)), some (.int ((kL A i k))), some (.int ((zix (kL A i k))))]) dX10_crossings_127 (by decide) rfl ?_
          exact l_cr2 hX h0 h1 gr hA hi (by omega) (fun x8 x9 => ih (k + 1) _ _ _ x8 x9 (by omega) (by simp only [zCr]; rw [← hx1]) (by simp only [zCr]; rw [← hx2]) (by show u + _ = (if _ then _ else _); rw [← hx1, ← hx2, if_pos ((zcr_iff _ _ _).mpr (Or.inl ⟨c_86, c_95⟩)), ← hx3, zr_sg1 ((hW i (by omega)).2.1 k (by omega)) c_118]))
      · refine zr_iload dX10_crossings_98 rfl ?_
        refine zr_iload dX10_crossings_100 rfl ?_
        refine zr_iconst (v := 1) dX10_crossings_102 (by decide) ?_
        refine zr_iadd dX10_crossings_103 ?_
        refine zr_icmp_ne (tgt := 129) dX10_crossings_104 (by decide) (fun c_104 => ?_) (fun c_104 => ?_)
        · exact l_cr2 hX h0 h1 gr hA hi (by omega) (fun x8 x9 => ih (k + 1) _ _ _ x8 x9 (by omega) (by simp only [zCr]; rw [← hx1]) (by simp only [zCr]; rw [← hx2]) (by show u = (if _ then _ else _); rw [← hx1, ← hx2, if_neg (fun z => (fun q => q.elim (fun z => c_95 z.2) (fun z => c_104 z.1)) ((zcr_iff _ _ _).mp z)), ← hx3]))
        · refine zr_iload dX10_crossings_107 rfl ?_
          refine zr_iload dX10_crossings_109 rfl ?_
          refine zr_icmp_ne (tgt := 129) dX10_crossings_111 (by decide) (fun c_111 => ?_) (fun c_111 => ?_)
          · exact l_cr2 hX h0 h1 gr hA hi (by omega) (fun x8 x9 => ih (k + 1) _ _ _ x8 x9 (by omega) (by simp only [zCr]; rw [← hx1]) (by simp only [zCr]; rw [← hx2]) (by show u = (if _ then _ else _); rw [← hx1, ← hx2, if_neg (fun z => (fun q => q.elim (fun z => c_95 z.2) (fun z => c_111 z.2)) ((zcr_iff _ _ _).mp z)), ← hx3]))
          · refine zr_iload dX10_crossings_114 rfl ?_
            refine zr_iload dX10_crossings_116 rfl ?_
            refine zr_if_le (tgt := 125) dX10_crossings_118 (by decide) (fun c_118 => ?_) (fun c_118 => ?_)
            · refine zr_iconst (v := -1) dX10_crossings_125 (by decide) ?_
              refine zr_iadd dX10_crossings_126 ?_
              refine zr_istore (ls' := [some (.ref y), some (.int (nI i)), some (.int p), some (.int p2), some (.int a), some (.int b), some (.int ((u + (-1)))), some (.int (nI k)), some (.int ((kL A i k))), some (.int ((zix (kL A i k))))]) dX10_crossings_127 (by decide) rfl ?_
              exact l_cr2 hX h0 h1 gr hA hi (by omega) (fun x8 x9 => ih (k + 1) _ _ _ x8 x9 (by omega) (by simp only [zCr]; rw [← hx1]) (by simp only [zCr]; rw [← hx2]) (by show u + _ = (if _ then _ else _); rw [← hx1, ← hx2, if_pos ((zcr_iff _ _ _).mpr (Or.inr ⟨c_104, c_111⟩)), ← hx3, zr_sg0 ((hW i (by omega)).2.1 k (by omega)) c_118]))
            · refine zr_iconst (v := 1) dX10_crossings_121 (by decide) ?_
              refine zr_goto (tgt := 126) dX10_crossings_122 (by decide) ?_
              refine zr_iadd dX10_crossings_126 ?_
              refine zr_istore (ls' := [some (.ref y), some (.int (nI i)), some (.int p), some (.int p2), some (.int a), some (.int b), some (.int ((u + 1))), some (.int (nI k)), some (.int ((kL A i k))), some (.int ((zix (kL A i k))))]) dX10_crossings_127 (by decide) rfl ?_
              exact l_cr2 hX h0 h1 gr hA hi (by omega) (fun x8 x9 => ih (k + 1) _ _ _ x8 x9 (by omega) (by simp only [zCr]; rw [← hx1]) (by simp only [zCr]; rw [← hx2]) (by show u + _ = (if _ then _ else _); rw [← hx1, ← hx2, if_pos ((zcr_iff _ _ _).mpr (Or.inr ⟨c_104, c_111⟩)), ← hx3, zr_sg1 ((hW i (by omega)).2.1 k (by omega)) c_118]))

set_option maxHeartbeats 400000 in
set_option maxRecDepth 100000 in
theorem qX10_crossings {X : zX} (hX : X.1.stackTraces = false) {σ : zS} {y : Nat} {w tm cd dn : Int32} {K : zDk} {A S : zDk} {m : Nat} {U : Nat → zDk} {n : Nat} {T : Nat → Int32} {ll : Nat} {ln : Nat → Int32} {hs kf ld dt dc : Int32} {i : Nat} {p p2 : Int32} (hM : zMo y w tm cd dn K A S m U n T ll ln hs kf ld dt dc σ) (gA : zGd A) (hi : i < kC A) (hp : 1 ≤ p ∧ p ≤ 5) (hp2 : 1 ≤ p2 ∧ p2 ≤ 5) : zMet X mX10_crossings yX10_crossings 4 0 0 [.ref y, .int (nI i), .int p, .int p2] σ (zI (fun y_ s => y_ = (zCr (kL A i) p p2 (kN A i)).2.2 ∧ zFr σ s (zMq y) ∧ zMo y w tm 0 0 K A S m U n T ll ln hs kf ld dt dc s)) := by
  refine zMet_of (ls := [some (.ref y), some (.int (nI i)), some (.int p), some (.int p2), none, none, none, none, none, none]) rfl (by decide +kernel) rfl (fun h => by cases h) hX (Nat.le_of_ble_eq_true rfl) rfl ?_
  obtain ⟨F, g, kp, sv, bf, ip, sg, td, h0, hf, h1, h2, h3, h4, h5, h6, h11, hWa, hC, hX9, hOt, gr, gS, gK, hm8, gU, hn60, hT, hll, hln⟩ := id hM
  obtain ⟨f4, f5, f6, f7, f8, f9, f10, f11, f13, f14, f16, f27⟩ := id hf
  have hA := gA.1
  obtain ⟨r0, r1, rc, rp⟩ := id gr
  obtain ⟨hC8, hP8, hW⟩ := id hA
  refine zr_aload_n dX10_crossings_0 rfl ?_
  refine zr_aload_n dX10_crossings_1 rfl ?_
  refine zr_iload_n dX10_crossings_2 rfl ?_
  refine zr_pVi [.ref y] dX10_crossings_3 vX10_131 (qX10_isCase hX (p := nI i) h0 h1 r0 (by omega)) h0 (by decide) (by decide) (by decide) rfl rfl (Nat.le_of_ble_eq_true rfl) (by decide) rfl ?_
  refine zr_if_ne (tgt := 13) dX10_crossings_6 (by decide) (fun c_6 => ?_) (fun c_6 => absurd c_6 (fun q => ite10.mp q (isin_y hi (by omega))))
  refine zr_iload_n dX10_crossings_13 rfl ?_
  refine zr_pSi [.ref y] dX10_crossings_14 vX10_180 (qX10_isStrand hX (p := p)) (by decide) (by decide) (by decide) rfl rfl (Nat.le_of_ble_eq_true rfl) rfl ?_
  refine zr_if_eq (tgt := 31) dX10_crossings_17 (by decide) (fun c_17 => absurd c_17 (fun q => ite10.mp q hp)) (fun c_17 => ?_)
  refine zr_iload_n dX10_crossings_20 rfl ?_
  refine zr_pSi [.ref y] dX10_crossings_21 vX10_180 (qX10_isStrand hX (p := p2)) (by decide) (by decide) (by decide) rfl rfl (Nat.le_of_ble_eq_true rfl) rfl ?_
  refine zr_if_eq (tgt := 31) dX10_crossings_24 (by decide) (fun c_24 => absurd c_24 (fun q => ite10.mp q hp2)) (fun c_24 => ?_)
  refine zr_iconst (v := 0) dX10_crossings_27 (by decide) ?_
  refine zr_goto (tgt := 32) dX10_crossings_28 (by decide) ?_
  refine zr_callVi [] dX10_crossings_32 vX10_135 (qX10_fails hX (p := 0) h0) h0 (by decide) (by decide) (by decide) rfl rfl (Nat.le_of_ble_eq_true rfl) (by decide) rfl (fun kr1 s_kr1 h_kr1 => ?_)
  obtain ⟨e_kr1, F_kr1, g0_kr1⟩ := h_kr1
  have kh2 : s_kr1.1 (y + 1) = .inl (0, 82, .inl g) := zFr.get F_kr1 (by omega) h1
  have kh3 : s_kr1.1 (y + 2) = .inl (0, 656, .inl kp) := zFr.get F_kr1 (by omega) h2
  have kh4 : s_kr1.1 (y + 3) = .inl (0, 82, .inl sv) := zFr.get F_kr1 (by omega) h3
  have kh5 : s_kr1.1 (y + 4) = .inl (0, 82, .inl bf) := zFr.get F_kr1 (by omega) h4
  have kh6 : s_kr1.1 (y + 5) = .inl (0, 60, .inl ip) := zFr.get F_kr1 (by omega) h5
  have kh7 : s_kr1.1 (y + 6) = .inl (1, 400, .inl sg) := zFr.get F_kr1 (by omega) h6
  have kh8 : s_kr1.1 (y + 11) = .inl (0, 93, .inl td) := zFr.get F_kr1 (by omega) h11
  have kR9 : zWa y s_kr1 := zWa.fr hWa F_kr1 (by intro q h1 h2 h3; (try simp only [zIn, zJf] at h3); omega)
  have kR10 : zCy y s_kr1 := zCy.fr hC F_kr1 (by intro q h1 h2 h3; (try simp only [zIn, zJf] at h3); omega)
  have kR11 : zXa y s_kr1 := zXa.fr hX9 F_kr1 (by intro q h1 h2 h3; (try simp only [zIn, zJf] at h3); omega)
  have kR12 : zOa y s_kr1 := zOa.fr hOt F_kr1 (by intro q h1 h2 h3; (try simp only [zIn, zJf] at h3); omega)
  have kF13 := zFr.tr zFr.rf (P := zMq y) F_kr1 (by intro q hq; unfold zMq; omega)
  replace e_kr1 := e_kr1.trans (if_pos (by decide) : (_ : Int32) = 0)
  obtain rfl := e_kr1.symm
  refine zr_if_eq (tgt := 40) dX10_crossings_35 (by decide) (fun c_35 => ?_) (fun c_35 => absurd (by decide) c_35)
  refine zr_iload_n dX10_crossings_40 rfl ?_
  refine zr_istore (ls' := [some (.ref y), some (.int (nI i)), some (.int p), some (.int p2), some (.int p), none, none, none, none, none]) dX10_crossings_41 (by decide) rfl ?_
  refine zr_iload_n dX10_crossings_43 rfl ?_
  refine zr_istore (ls' := [some (.ref y), some (.int (nI i)), some (.int p), some (.int p2), some (.int p), some (.int p2), none, none, none, none]) dX10_crossings_44 (by decide) rfl ?_
  refine zr_iconst (v := 0) dX10_crossings_46 (by decide) ?_
  refine zr_istore (ls' := [some (.ref y), some (.int (nI i)), some (.int p), some (.int p2), some (.int p), some (.int p2), some (.int 0), none, none, none]) dX10_crossings_47 (by decide) rfl ?_
  refine zr_iconst (v := 0) dX10_crossings_49 (by decide) ?_
  refine zr_istore (ls' := [some (.ref y), some (.int (nI i)), some (.int p), some (.int p2), some (.int p), some (.int p2), some (.int 0), some (.int 0), none, none]) dX10_crossings_50 (by decide) rfl ?_
  exact (l_cr1 hX g0_kr1 kh2 gr hA hi (kN A i) 0 _ _ _ _ _ (by omega) rfl rfl rfl).mono (fun o s q => by obtain ⟨r, e1, e2, e3⟩ := q; rw [e3]; exact ⟨r, e1, e2, kF13, ⟨_, _, _, _, _, _, _, _, g0_kr1, ⟨f4, f5, f6, rfl, rfl, f9, f10, f11, f13, f14, f16, f27⟩, kh2, kh3, kh4, kh5, kh6, kh7, kh8, kR9, kR10, kR11, kR12, gr, gS, gK, hm8, gU, hn60, hT, hll, hln⟩⟩)

set_option maxHeartbeats 400000 in
set_option maxRecDepth 100000 in
theorem qX10_crossingsN {X : zX} (hX : X.1.stackTraces = false) {σ : zS} {y : Nat} {w tm cd dn : Int32} {K : zDk} {A S : zDk} {m : Nat} {U : Nat → zDk} {n : Nat} {T : Nat → Int32} {ll : Nat} {ln : Nat → Int32} {hs kf ld dt dc : Int32} {i : Nat} {p p2 : Int32} (hM : zMo y w tm cd dn K A S m U n T ll ln hs kf ld dt dc σ) (gA : zGd A) (hi : i < kC A) (hp : ¬ (1 ≤ p ∧ p ≤ 5)) : zMet X mX10_crossings yX10_crossings 4 0 0 [.ref y, .int (nI i), .int p, .int p2] σ (zI (fun y_ s => True ∧ zFr σ s (zMq y) ∧ zMo y w tm 2 0 K A S m U n T ll ln hs kf ld dt dc s)) := by
  refine zMet_of (ls := [some (.ref y), some (.int (nI i)), some (.int p), some (.int p2), none, none, none, none, none, none]) rfl (by decide +kernel) rfl (fun h => by cases h) hX (Nat.le_of_ble_eq_true rfl) rfl ?_
  obtain ⟨F, g, kp, sv, bf, ip, sg, td, h0, hf, h1, h2, h3, h4, h5, h6, h11, hWa, hC, hX9, hOt, gr, gS, gK, hm8, gU, hn60, hT, hll, hln⟩ := id hM
  obtain ⟨f4, f5, f6, f7, f8, f9, f10, f11, f13, f14, f16, f27⟩ := id hf
  have hA := gA.1
  obtain ⟨r0, r1, rc, rp⟩ := id gr
  obtain ⟨hC8, hP8, hW⟩ := id hA
  refine zr_aload_n dX10_crossings_0 rfl ?_
  refine zr_aload_n dX10_crossings_1 rfl ?_
  refine zr_iload_n dX10_crossings_2 rfl ?_
  refine zr_pVi [.ref y] dX10_crossings_3 vX10_131 (qX10_isCase hX (p := nI i) h0 h1 r0 (by omega)) h0 (by decide) (by decide) (by decide) rfl rfl (Nat.le_of_ble_eq_true rfl) (by decide) rfl ?_
  refine zr_if_ne (tgt := 13) dX10_crossings_6 (by decide) (fun c_6 => ?_) (fun c_6 => absurd c_6 (fun q => ite10.mp q (isin_y hi (by omega))))
  refine zr_iload_n dX10_crossings_13 rfl ?_
  refine zr_pSi [.ref y] dX10_crossings_14 vX10_180 (qX10_isStrand hX (p := p)) (by decide) (by decide) (by decide) rfl rfl (Nat.le_of_ble_eq_true rfl) rfl ?_
  refine zr_if_eq (tgt := 31) dX10_crossings_17 (by decide) (fun c_17 => ?_) (fun c_17 => absurd (ite10.mpr hp) c_17)
  refine zr_iconst (v := 2) dX10_crossings_31 (by decide) ?_
  refine zr_callVi [] dX10_crossings_32 vX10_135 (qX10_fails hX (p := 2) h0) h0 (by decide) (by decide) (by decide) rfl rfl (Nat.le_of_ble_eq_true rfl) (by decide) rfl (fun kr1 s_kr1 h_kr1 => ?_)
  obtain ⟨e_kr1, F_kr1, g0_kr1⟩ := h_kr1
  have kh2 : s_kr1.1 (y + 1) = .inl (0, 82, .inl g) := zFr.get F_kr1 (by omega) h1
  have kh3 : s_kr1.1 (y + 2) = .inl (0, 656, .inl kp) := zFr.get F_kr1 (by omega) h2
  have kh4 : s_kr1.1 (y + 3) = .inl (0, 82, .inl sv) := zFr.get F_kr1 (by omega) h3
  have kh5 : s_kr1.1 (y + 4) = .inl (0, 82, .inl bf) := zFr.get F_kr1 (by omega) h4
  have kh6 : s_kr1.1 (y + 5) = .inl (0, 60, .inl ip) := zFr.get F_kr1 (by omega) h5
  have kh7 : s_kr1.1 (y + 6) = .inl (1, 400, .inl sg) := zFr.get F_kr1 (by omega) h6
  have kh8 : s_kr1.1 (y + 11) = .inl (0, 93, .inl td) := zFr.get F_kr1 (by omega) h11
  have kR9 : zWa y s_kr1 := zWa.fr hWa F_kr1 (by intro q h1 h2 h3; (try simp only [zIn, zJf] at h3); omega)
  have kR10 : zCy y s_kr1 := zCy.fr hC F_kr1 (by intro q h1 h2 h3; (try simp only [zIn, zJf] at h3); omega)
  have kR11 : zXa y s_kr1 := zXa.fr hX9 F_kr1 (by intro q h1 h2 h3; (try simp only [zIn, zJf] at h3); omega)
  have kR12 : zOa y s_kr1 := zOa.fr hOt F_kr1 (by intro q h1 h2 h3; (try simp only [zIn, zJf] at h3); omega)
  have kF13 := zFr.tr zFr.rf (P := zMq y) F_kr1 (by intro q hq; unfold zMq; omega)
  replace e_kr1 := e_kr1.trans (if_neg (by decide) : (_ : Int32) = 1)
  obtain rfl := e_kr1.symm
  refine zr_if_eq (tgt := 40) dX10_crossings_35 (by decide) (fun c_35 => absurd c_35 (by decide)) (fun c_35 => ?_)
  refine zr_iconst (v := 0) dX10_crossings_38 (by decide) ?_
  exact zr_ireturn dX10_crossings_39 rfl (rfl) (⟨_, rfl, trivial, kF13, ⟨_, _, _, _, _, _, _, _, g0_kr1, ⟨f4, f5, f6, rfl, rfl, f9, f10, f11, f13, f14, f16, f27⟩, kh2, kh3, kh4, kh5, kh6, kh7, kh8, kR9, kR10, kR11, kR12, gr, gS, gK, hm8, gU, hn60, hT, hll, hln⟩⟩)

set_option maxHeartbeats 400000 in
set_option maxRecDepth 100000 in
theorem qX10_crossingsN2 {X : zX} (hX : X.1.stackTraces = false) {σ : zS} {y : Nat} {w tm cd dn : Int32} {K : zDk} {A S : zDk} {m : Nat} {U : Nat → zDk} {n : Nat} {T : Nat → Int32} {ll : Nat} {ln : Nat → Int32} {hs kf ld dt dc : Int32} {i : Nat} {p p2 : Int32} (hM : zMo y w tm cd dn K A S m U n T ll ln hs kf ld dt dc σ) (gA : zGd A) (hi : i < kC A) (hp : 1 ≤ p ∧ p ≤ 5) (hp2 : ¬ (1 ≤ p2 ∧ p2 ≤ 5)) : zMet X mX10_crossings yX10_crossings 4 0 0 [.ref y, .int (nI i), .int p, .int p2] σ (zI (fun y_ s => True ∧ zFr σ s (zMq y) ∧ zMo y w tm 2 0 K A S m U n T ll ln hs kf ld dt dc s)) := by
  refine zMet_of (ls := [some (.ref y), some (.int (nI i)), some (.int p), some (.int p2), none, none, none, none, none, none]) rfl (by decide +kernel) rfl (fun h => by cases h) hX (Nat.le_of_ble_eq_true rfl) rfl ?_
  obtain ⟨F, g, kp, sv, bf, ip, sg, td, h0, hf, h1, h2, h3, h4, h5, h6, h11, hWa, hC, hX9, hOt, gr, gS, gK, hm8, gU, hn60, hT, hll, hln⟩ := id hM
  obtain ⟨f4, f5, f6, f7, f8, f9, f10, f11, f13, f14, f16, f27⟩ := id hf
  have hA := gA.1
  obtain ⟨r0, r1, rc, rp⟩ := id gr
  obtain ⟨hC8, hP8, hW⟩ := id hA
  refine zr_aload_n dX10_crossings_0 rfl ?_
  refine zr_aload_n dX10_crossings_1 rfl ?_
  refine zr_iload_n dX10_crossings_2 rfl ?_
  refine zr_pVi [.ref y] dX10_crossings_3 vX10_131 (qX10_isCase hX (p := nI i) h0 h1 r0 (by omega)) h0 (by decide) (by decide) (by decide) rfl rfl (Nat.le_of_ble_eq_true rfl) (by decide) rfl ?_
  refine zr_if_ne (tgt := 13) dX10_crossings_6 (by decide) (fun c_6 => ?_) (fun c_6 => absurd c_6 (fun q => ite10.mp q (isin_y hi (by omega))))
  refine zr_iload_n dX10_crossings_13 rfl ?_
  refine zr_pSi [.ref y] dX10_crossings_14 vX10_180 (qX10_isStrand hX (p := p)) (by decide) (by decide) (by decide) rfl rfl (Nat.le_of_ble_eq_true rfl) rfl ?_
  refine zr_if_eq (tgt := 31) dX10_crossings_17 (by decide) (fun c_17 => absurd c_17 (fun q => ite10.mp q hp)) (fun c_17 => ?_)
  refine zr_iload_n dX10_crossings_20 rfl ?_
  refine zr_pSi [.ref y] dX10_crossings_21 vX10_180 (qX10_isStrand hX (p := p2)) (by decide) (by decide) (by decide) rfl rfl (Nat.le_of_ble_eq_true rfl) rfl ?_
  refine zr_if_eq (tgt := 31) dX10_crossings_24 (by decide) (fun c_24 => ?_) (fun c_24 => absurd (ite10.mpr hp2) c_24)
  refine zr_iconst (v := 2) dX10_crossings_31 (by decide) ?_
  refine zr_callVi [] dX10_crossings_32 vX10_135 (qX10_fails hX (p := 2) h0) h0 (by decide) (by decide) (by decide) rfl rfl (Nat.le_of_ble_eq_true rfl) (by decide) rfl (fun kr1 s_kr1 h_kr1 => ?_)
  obtain ⟨e_kr1, F_kr1, g0_kr1⟩ := h_kr1
  have kh2 : s_kr1.1 (y + 1) = .inl (0, 82, .inl g) := zFr.get F_kr1 (by omega) h1
  have kh3 : s_kr1.1 (y + 2) = .inl (0, 656, .inl kp) := zFr.get F_kr1 (by omega) h2
  have kh4 : s_kr1.1 (y + 3) = .inl (0, 82, .inl sv) := zFr.get F_kr1 (by omega) h3
  have kh5 : s_kr1.1 (y + 4) = .inl (0, 82, .inl bf) := zFr.get F_kr1 (by omega) h4
  have kh6 : s_kr1.1 (y + 5) = .inl (0, 60, .inl ip) := zFr.get F_kr1 (by omega) h5
  have kh7 : s_kr1.1 (y + 6) = .inl (1, 400, .inl sg) := zFr.get F_kr1 (by omega) h6
  have kh8 : s_kr1.1 (y + 11) = .inl (0, 93, .inl td) := zFr.get F_kr1 (by omega) h11
  have kR9 : zWa y s_kr1 := zWa.fr hWa F_kr1 (by intro q h1 h2 h3; (try simp only [zIn, zJf] at h3); omega)
  have kR10 : zCy y s_kr1 := zCy.fr hC F_kr1 (by intro q h1 h2 h3; (try simp only [zIn, zJf] at h3); omega)
  have kR11 : zXa y s_kr1 := zXa.fr hX9 F_kr1 (by intro q h1 h2 h3; (try simp only [zIn, zJf] at h3); omega)
  have kR12 : zOa y s_kr1 := zOa.fr hOt F_kr1 (by intro q h1 h2 h3; (try simp only [zIn, zJf] at h3); omega)
  have kF13 := zFr.tr zFr.rf (P := zMq y) F_kr1 (by intro q hq; unfold zMq; omega)
  replace e_kr1 := e_kr1.trans (if_neg (by decide) : (_ : Int32) = 1)
  obtain rfl := e_kr1.symm
  refine zr_if_eq (tgt := 40) dX10_crossings_35 (by decide) (fun c_35 => absurd c_35 (by decide)) (fun c_35 => ?_)
  refine zr_iconst (v := 0) dX10_crossings_38 (by decide) ?_
  exact zr_ireturn dX10_crossings_39 rfl (rfl) (⟨_, rfl, trivial, kF13, ⟨_, _, _, _, _, _, _, _, g0_kr1, ⟨f4, f5, f6, rfl, rfl, f9, f10, f11, f13, f14, f16, f27⟩, kh2, kh3, kh4, kh5, kh6, kh7, kh8, kR9, kR10, kR11, kR12, gr, gS, gK, hm8, gU, hn60, hT, hll, hln⟩⟩)

set_option maxHeartbeats 400000 in
set_option maxRecDepth 100000 in
theorem qX10_crossingsX {X : zX} (hX : X.1.stackTraces = false) {σ : zS} {y : Nat} {w tm cd dn : Int32} {K : zDk} {A S : zDk} {m : Nat} {U : Nat → zDk} {n : Nat} {T : Nat → Int32} {ll : Nat} {ln : Nat → Int32} {hs kf ld dt dc : Int32} {p : Int32} {p2 p3 : Int32} (hM : zMo y w tm cd dn K A S m U n T ll ln hs kf ld dt dc σ) (gA : zGd A) (hno : ¬ (¬ p < 0 ∧ p < nI (kC A))) : zMet X mX10_crossings yX10_crossings 4 0 0 [.ref y, .int p, .int p2, .int p3] σ (zI (fun y_ s => True ∧ zFr σ s (zMq y) ∧ zMo y w tm 1 0 K A S m U n T ll ln hs kf ld dt dc s)) := by
  refine zMet_of (ls := [some (.ref y), some (.int p), some (.int p2), some (.int p3), none, none, none, none, none, none]) rfl (by decide +kernel) rfl (fun h => by cases h) hX (Nat.le_of_ble_eq_true rfl) rfl ?_
  obtain ⟨F, g, kp, sv, bf, ip, sg, td, h0, hf, h1, h2, h3, h4, h5, h6, h11, hWa, hC, hX9, hOt, gr, gS, gK, hm8, gU, hn60, hT, hll, hln⟩ := id hM
  obtain ⟨f4, f5, f6, f7, f8, f9, f10, f11, f13, f14, f16, f27⟩ := id hf
  have hA := gA.1
  obtain ⟨r0, r1, rc, rp⟩ := id gr
  obtain ⟨hC8, hP8, hW⟩ := id hA
  refine zr_aload_n dX10_crossings_0 rfl ?_
  refine zr_aload_n dX10_crossings_1 rfl ?_
  refine zr_iload_n dX10_crossings_2 rfl ?_
  refine zr_pVi [.ref y] dX10_crossings_3 vX10_131 (qX10_isCase hX (p := p) h0 h1 r0 (by omega)) h0 (by decide) (by decide) (by decide) rfl rfl (Nat.le_of_ble_eq_true rfl) (by decide) rfl ?_
  refine zr_if_ne (tgt := 13) dX10_crossings_6 (by decide) (fun c_6 => absurd (ite10.mpr hno) c_6) (fun c_6 => ?_)
  refine zr_iconst (v := 1) dX10_crossings_9 (by decide) ?_
  refine zr_goto (tgt := 32) dX10_crossings_10 (by decide) ?_
  refine zr_callVi [] dX10_crossings_32 vX10_135 (qX10_fails hX (p := 1) h0) h0 (by decide) (by decide) (by decide) rfl rfl (Nat.le_of_ble_eq_true rfl) (by decide) rfl (fun kr1 s_kr1 h_kr1 => ?_)
  obtain ⟨e_kr1, F_kr1, g0_kr1⟩ := h_kr1
  have kh2 : s_kr1.1 (y + 1) = .inl (0, 82, .inl g) := zFr.get F_kr1 (by omega) h1
  have kh3 : s_kr1.1 (y + 2) = .inl (0, 656, .inl kp) := zFr.get F_kr1 (by omega) h2
  have kh4 : s_kr1.1 (y + 3) = .inl (0, 82, .inl sv) := zFr.get F_kr1 (by omega) h3
  have kh5 : s_kr1.1 (y + 4) = .inl (0, 82, .inl bf) := zFr.get F_kr1 (by omega) h4
  have kh6 : s_kr1.1 (y + 5) = .inl (0, 60, .inl ip) := zFr.get F_kr1 (by omega) h5
  have kh7 : s_kr1.1 (y + 6) = .inl (1, 400, .inl sg) := zFr.get F_kr1 (by omega) h6
  have kh8 : s_kr1.1 (y + 11) = .inl (0, 93, .inl td) := zFr.get F_kr1 (by omega) h11
  have kR9 : zWa y s_kr1 := zWa.fr hWa F_kr1 (by intro q h1 h2 h3; (try simp only [zIn, zJf] at h3); omega)
  have kR10 : zCy y s_kr1 := zCy.fr hC F_kr1 (by intro q h1 h2 h3; (try simp only [zIn, zJf] at h3); omega)
  have kR11 : zXa y s_kr1 := zXa.fr hX9 F_kr1 (by intro q h1 h2 h3; (try simp only [zIn, zJf] at h3); omega)
  have kR12 : zOa y s_kr1 := zOa.fr hOt F_kr1 (by intro q h1 h2 h3; (try simp only [zIn, zJf] at h3); omega)
  have kF13 := zFr.tr zFr.rf (P := zMq y) F_kr1 (by intro q hq; unfold zMq; omega)
  replace e_kr1 := e_kr1.trans (if_neg (by decide) : (_ : Int32) = 1)
  obtain rfl := e_kr1.symm
  refine zr_if_eq (tgt := 40) dX10_crossings_35 (by decide) (fun c_35 => absurd c_35 (by decide)) (fun c_35 => ?_)
  refine zr_iconst (v := 0) dX10_crossings_38 (by decide) ?_
  exact zr_ireturn dX10_crossings_39 rfl (rfl) (⟨_, rfl, trivial, kF13, ⟨_, _, _, _, _, _, _, _, g0_kr1, ⟨f4, f5, f6, rfl, rfl, f9, f10, f11, f13, f14, f16, f27⟩, kh2, kh3, kh4, kh5, kh6, kh7, kh8, kR9, kR10, kR11, kR12, gr, gS, gK, hm8, gU, hn60, hT, hll, hln⟩⟩)

set_option maxHeartbeats 400000 in
set_option maxRecDepth 100000 in
theorem l_cb2 {X : zX} (hX : X.1.stackTraces = false) {σ : zS} {y : Nat} {F : Nat → Int32} {g : Nat → Int32} {A : zDk} {r : Int32} {k : Nat} {Q : zO → zS → Prop} (h0 : σ.1 y = zmO y F) (h1 : σ.1 (y + 1) = .inl (0, 82, .inl g)) (gr : zGr A g) (hA : zDw A) (hk : k < kC A) (hself : ∀ k, k < kC A → zqs A k k = 0) (kk : ∀ (s : zS) (v : Int32) (x5 : Option Value), (zFr σ s (fun q => q = y ∨ q = y + 7 ∨ q = y + 9)) → (s.1 y = zmO y (upd F 19 v)) → (zWa y s) → (zXa y s) → zW X mX10_caseByBraid 5 0 0 Q 77 [some (.ref y), some (.int r), some (.int (nI k)), some (.int (nI (zRk A k (kC A)))), some (.int (nI (kC A))), x5] [] s) : ∀ (j t : Nat) (s : zS) (v : Int32) (u : Nat) (x5 : Option Value), t + j = (kC A) → (zFr σ s (fun q => q = y ∨ q = y + 7 ∨ q = y + 9)) → (s.1 y = zmO y (upd F 19 v)) → (zWa y s) → (zXa y s) → (u = zRk A k t) → zW X mX10_caseByBraid 5 0 0 (Q) 17 [some (.ref y), some (.int r), some (.int (nI k)), some (.int (nI u)), some (.int (nI t)), x5] [] s := by
  intro j
  induction j with
  | zero =>
    intro t s v u x5 ht hFr k0 kW kX hu
    obtain ⟨r0, r1, rc, rp⟩ := id gr
    obtain ⟨hC8, hP8, hW⟩ := id hA
    have k1 := zFr.get hFr (by omega) h1
    refine zr_iload dX10_caseByBraid_17 rfl ?_
    refine zr_aload_n dX10_caseByBraid_19 rfl ?_
    refine zr_getM (v := .ref (y + 1)) dX10_caseByBraid_20 fX10_7 k0 rfl ?_
    refine zr_iconst (v := 0) dX10_caseByBraid_23 (by decide) ?_
    refine zr_iaload dX10_caseByBraid_24 k1 (vp_in_nI (n := 0) (by omega) (by omega)) ?_
    rw [show (0 : Int32).toNatClampNeg = 0 from by decide]
    refine zr_eqi (x' := nI (kC A)) (r0) ?_
    refine zr_icmp_ge (tgt := 77) dX10_caseByBraid_25 (by decide) (fun c_25 => ?_) (fun c_25 => absurd ((nI_leI (a := kC A) (b := t) (by omega) (by omega)).mpr (by omega)) c_25)
    have e1 : t = kC A := (by omega); rw [e1] at hu; rw [hu, e1]; exact kk s v x5 hFr k0 kW kX
  | succ j ih =>
    intro t s v u x5 ht hFr k0 kW kX hu
    obtain ⟨r0, r1, rc, rp⟩ := id gr
    obtain ⟨hC8, hP8, hW⟩ := id hA
    have k1 := zFr.get hFr (by omega) h1
    refine zr_iload dX10_caseByBraid_17 rfl ?_
    refine zr_aload_n dX10_caseByBraid_19 rfl ?_
    refine zr_getM (v := .ref (y + 1)) dX10_caseByBraid_20 fX10_7 k0 rfl ?_
    refine zr_iconst (v := 0) dX10_caseByBraid_23 (by decide) ?_
    refine zr_iaload dX10_caseByBraid_24 k1 (vp_in_nI (n := 0) (by omega) (by omega)) ?_
    rw [show (0 : Int32).toNatClampNeg = 0 from by decide]
    refine zr_eqi (x' := nI (kC A)) (r0) ?_
    refine zr_icmp_ge (tgt := 77) dX10_caseByBraid_25 (by decide) (fun c_25 => absurd c_25 (fun h => absurd ((nI_leI (a := kC A) (b := t) (by omega) (by omega)).mp h) (by omega))) (fun c_25 => ?_)
    refine zr_iload dX10_caseByBraid_28 rfl ?_
    refine zr_iload_n dX10_caseByBraid_30 rfl ?_
    refine zr_icmp_ne (tgt := 38) dX10_caseByBraid_31 (by decide) (fun c_31 => ?_) (fun c_31 => ?_)
    · refine zr_aload_n dX10_caseByBraid_38 rfl ?_
      refine zr_iload dX10_caseByBraid_39 rfl ?_
      refine zr_iload_n dX10_caseByBraid_41 rfl ?_
      refine zr_callVi [] dX10_caseByBraid_42 vX10_204 (qX10_order hX (i := t) (j := k) k0 k1 gr hA (by omega) (by omega) kW kX) k0 (by decide) (by decide) (by decide) rfl rfl (Nat.le_of_ble_eq_true rfl) (by decide) rfl (fun kr1 s_kr1 h_kr1 => ?_)
      obtain ⟨e_kr1, F_kr1, g0_kr1, r0_kr1, r1_kr1⟩ := h_kr1
      have kh2 : s_kr1.1 (y + 1) = .inl (0, 82, .inl g) := zFr.get F_kr1 (by omega) k1
      have kF3 := zFr.tr hFr F_kr1 (by intro q hq; omega)
      obtain rfl := e_kr1.symm
      refine zr_istore (ls' := [some (.ref y), some (.int r), some (.int (nI k)), some (.int (nI u)), some (.int (nI t)), some (.int ((zqs A t k)))]) dX10_caseByBraid_45 (by decide) rfl ?_
      refine zr_iload_n dX10_caseByBraid_47 rfl ?_
      refine zr_iload dX10_caseByBraid_48 rfl ?_
      refine zr_if_gt (tgt := 64) dX10_caseByBraid_50 (by decide) (fun c_50 => ?_) (fun c_50 => ?_)
      · refine zr_iconst (v := 1) dX10_caseByBraid_64 (by decide) ?_
        refine zr_goto (tgt := 69) dX10_caseByBraid_65 (by decide) ?_
        refine zr_iadd dX10_caseByBraid_69 ?_
        refine zr_eqi (x' := nI (u + 1)) (nI_add u 1) ?_
        refine zr_istore_n (ls' := [some (.ref y), some (.int r), some (.int (nI k)), some (.int (nI (u + 1))), some (.int (nI t)), some (.int ((zqs A t k)))]) dX10_caseByBraid_70 rfl (by decide) rfl ?_
        refine zr_iinc (v := nI (t + 1)) (ls' := [some (.ref y), some (.int r), some (.int (nI k)), some (.int (nI (u + 1))), some (.int (nI (t + 1))), some (.int ((zqs A t k)))]) dX10_caseByBraid_71 rfl (nI_1 _) (by decide) rfl ?_
        refine zr_goto (tgt := 17) dX10_caseByBraid_74 (by decide) ?_
        exact ih (t + 1) _ _ _ _ (by omega) (kF3) (g0_kr1) (r0_kr1) (r1_kr1) (by simp only [zRk]; rw [hu, if_pos (Or.inl c_50)])
      · refine zr_iload dX10_caseByBraid_53 rfl ?_
        refine zr_if_ne (tgt := 68) dX10_caseByBraid_55 (by decide) (fun c_55 => ?_) (fun c_55 => ?_)
        · refine zr_iconst (v := 0) dX10_caseByBraid_68 (by decide) ?_
          refine zr_iadd dX10_caseByBraid_69 ?_
          refine zr_eqi (x' := nI (u + 0)) (nI_add u 0) ?_
          refine zr_istore_n (ls' := [some (.ref y), some (.int r), some (.int (nI k)), some (.int (nI (u + 0))), some (.int (nI t)), some (.int ((zqs A t k)))]) dX10_caseByBraid_70 rfl (by decide) rfl ?_
          refine zr_iinc (v := nI (t + 1)) (ls' := [some (.ref y), some (.int r), some (.int (nI k)), some (.int (nI (u + 0))), some (.int (nI (t + 1))), some (.int ((zqs A t k)))]) dX10_caseByBraid_71 rfl (nI_1 _) (by decide) rfl ?_
          refine zr_goto (tgt := 17) dX10_caseByBraid_74 (by decide) ?_
          exact ih (t + 1) _ _ _ _ (by omega) (kF3) (g0_kr1) (r0_kr1) (r1_kr1) (by simp only [zRk]; rw [hu, if_neg (fun q => q.elim c_50 (fun q => c_55 q.1))]; rfl)
        · refine zr_iload dX10_caseByBraid_58 rfl ?_
          refine zr_iload_n dX10_caseByBraid_60 rfl ?_
          refine zr_icmp_ge (tgt := 68) dX10_caseByBraid_61 (by decide) (fun c_61 => ?_) (fun c_61 => ?_)
          · refine zr_iconst (v := 0) dX10_caseByBraid_68 (by decide) ?_
            refine zr_iadd dX10_caseByBraid_69 ?_
            refine zr_eqi (x' := nI (u + 0)) (nI_add u 0) ?_
            refine zr_istore_n (ls' := [some (.ref y), some (.int r), some (.int (nI k)), some (.int (nI (u + 0))), some (.int (nI t)), some (.int ((zqs A t k)))]) dX10_caseByBraid_70 rfl (by decide) rfl ?_
            refine zr_iinc (v := nI (t + 1)) (ls' := [some (.ref y), some (.int r), some (.int (nI k)), some (.int (nI (u + 0))), some (.int (nI (t + 1))), some (.int ((zqs A t k)))]) dX10_caseByBraid_71 rfl (nI_1 _) (by decide) rfl ?_
            refine zr_goto (tgt := 17) dX10_caseByBraid_74 (by decide) ?_
            exact ih (t + 1) _ _ _ _ (by omega) (kF3) (g0_kr1) (r0_kr1) (r1_kr1) (by simp only [zRk]; rw [hu, if_neg (fun q => q.elim c_50 (fun q => by have := (nI_leI (by omega) (by omega)).mp c_61; omega))]; rfl)
          · refine zr_iconst (v := 1) dX10_caseByBraid_64 (by decide) ?_
            refine zr_goto (tgt := 69) dX10_caseByBraid_65 (by decide) ?_
            refine zr_iadd dX10_caseByBraid_69 ?_
            refine zr_eqi (x' := nI (u + 1)) (nI_add u 1) ?_
            refine zr_istore_n (ls' := [some (.ref y), some (.int r), some (.int (nI k)), some (.int (nI (u + 1))), some (.int (nI t)), some (.int ((zqs A t k)))]) dX10_caseByBraid_70 rfl (by decide) rfl ?_
            refine zr_iinc (v := nI (t + 1)) (ls' := [some (.ref y), some (.int r), some (.int (nI k)), some (.int (nI (u + 1))), some (.int (nI (t + 1))), some (.int ((zqs A t k)))]) dX10_caseByBraid_71 rfl (nI_1 _) (by decide) rfl ?_
            refine zr_goto (tgt := 17) dX10_caseByBraid_74 (by decide) ?_
            exact ih (t + 1) _ _ _ _ (by omega) (kF3) (g0_kr1) (r0_kr1) (r1_kr1) (by simp only [zRk]; rw [hu, if_pos (Or.inr ⟨c_55, Nat.lt_of_not_le (fun q => c_61 ((nI_leI (by omega) (by omega)).mpr q))⟩)])
    · have eok : t = k := (nI_eq (by omega) (by omega)).mp c_31
      refine zr_iconst (v := 0) dX10_caseByBraid_34 (by decide) ?_
      refine zr_goto (tgt := 45) dX10_caseByBraid_35 (by decide) ?_
      refine zr_istore (ls' := [some (.ref y), some (.int r), some (.int (nI k)), some (.int (nI u)), some (.int (nI t)), some (.int 0)]) dX10_caseByBraid_45 (by decide) rfl ?_
      refine zr_iload_n dX10_caseByBraid_47 rfl ?_
      refine zr_iload dX10_caseByBraid_48 rfl ?_
      refine zr_if_gt (tgt := 64) dX10_caseByBraid_50 (by decide) (fun c_50 => absurd c_50 (by decide)) (fun c_50 => ?_)
      refine zr_iload dX10_caseByBraid_53 rfl ?_
      refine zr_if_ne (tgt := 68) dX10_caseByBraid_55 (by decide) (fun c_55 => absurd (by decide) c_55) (fun c_55 => ?_)
      refine zr_iload dX10_caseByBraid_58 rfl ?_
      refine zr_iload_n dX10_caseByBraid_60 rfl ?_
      refine zr_icmp_ge (tgt := 68) dX10_caseByBraid_61 (by decide) (fun c_61 => ?_) (fun c_61 => absurd ((nI_leI (a := k) (b := t) (by omega) (by omega)).mpr (by omega)) c_61)
      refine zr_iconst (v := 0) dX10_caseByBraid_68 (by decide) ?_
      refine zr_iadd dX10_caseByBraid_69 ?_
      refine zr_eqi (x' := nI (u + 0)) (nI_add u 0) ?_
      refine zr_istore_n (ls' := [some (.ref y), some (.int r), some (.int (nI k)), some (.int (nI (u + 0))), some (.int (nI t)), some (.int 0)]) dX10_caseByBraid_70 rfl (by decide) rfl ?_
      refine zr_iinc (v := nI (t + 1)) (ls' := [some (.ref y), some (.int r), some (.int (nI k)), some (.int (nI (u + 0))), some (.int (nI (t + 1))), some (.int 0)]) dX10_caseByBraid_71 rfl (nI_1 _) (by decide) rfl ?_
      refine zr_goto (tgt := 17) dX10_caseByBraid_74 (by decide) ?_
      exact ih (t + 1) _ _ _ _ (by omega) (hFr) (k0) (kW) (kX) (by simp only [zRk]; rw [hu, if_neg (fun q => by rw [eok, hself k (by omega)] at q; rcases q with q | q; exact absurd q (by decide); omega)]; rfl)

set_option maxHeartbeats 400000 in
set_option maxRecDepth 100000 in
theorem l_cb1 {X : zX} (hX : X.1.stackTraces = false) {σ : zS} {y : Nat} {F : Nat → Int32} {g : Nat → Int32} {A : zDk} {r : Int32} (h0 : σ.1 y = zmO y F) (h1 : σ.1 (y + 1) = .inl (0, 82, .inl g)) (gr : zGr A g) (hA : zDw A) (hself : ∀ k, k < kC A → zqs A k k = 0) : ∀ (j k : Nat) (s : zS) (v : Int32) (x3 x4 x5 : Option Value), k + j = (kC A) → (zFr σ s (fun q => q = y ∨ q = y + 7 ∨ q = y + 9)) → (s.1 y = zmO y (upd F 19 v)) → (zWa y s) → (zXa y s) → (zCk A r 0 (kC A) = zCk A r k j) → zW X mX10_caseByBraid 5 0 0 ((zI (fun y_ s => ∃ v, zFr σ s (fun q => q = y ∨ q = y + 7 ∨ q = y + 9) ∧ zWa y s ∧ zXa y s ∧ ((¬ zCk A r 0 (kC A) = -1 ∧ y_ = zCk A r 0 (kC A) ∧ s.1 y = zmO y (upd (upd F 8 0) 19 v)) ∨ (zCk A r 0 (kC A) = -1 ∧ s.1 y = zmO y (upd (upd F 8 1) 19 v)))))) 2 [some (.ref y), some (.int r), some (.int (nI k)), x3, x4, x5] [] s := by
  intro j
  induction j with
  | zero =>
    intro k s v x3 x4 x5 hk hFr k0 kW kX hz
    obtain ⟨r0, r1, rc, rp⟩ := id gr
    obtain ⟨hC8, hP8, hW⟩ := id hA
    have k1 := zFr.get hFr (by omega) h1
    refine zr_iload_n dX10_caseByBraid_2 rfl ?_
    refine zr_aload_n dX10_caseByBraid_3 rfl ?_
    refine zr_getM (v := .ref (y + 1)) dX10_caseByBraid_4 fX10_7 k0 rfl ?_
    refine zr_iconst (v := 0) dX10_caseByBraid_7 (by decide) ?_
    refine zr_iaload dX10_caseByBraid_8 k1 (vp_in_nI (n := 0) (by omega) (by omega)) ?_
    rw [show (0 : Int32).toNatClampNeg = 0 from by decide]
    refine zr_eqi (x' := nI (kC A)) (r0) ?_
    refine zr_icmp_ge (tgt := 98) dX10_caseByBraid_9 (by decide) (fun c_9 => ?_) (fun c_9 => absurd ((nI_leI (a := kC A) (b := k) (by omega) (by omega)).mpr (by omega)) c_9)
    refine zr_aload_n dX10_caseByBraid_98 rfl ?_
    refine zr_iconst (v := 1) dX10_caseByBraid_99 (by decide) ?_
    refine zr_putM (v := 1) dX10_caseByBraid_100 pX10_49 k0 (rfl) (rfl) (Nat.le_of_ble_eq_true rfl) (zms_8 _ _ _) ?_
    refine zr_sig (fun ks1 e_ks1 => ?_)
    have kh2 : ks1.1 y = zmO y (upd (upd F 8 1) 19 v) := by rw [e_ks1]; exact zup_at _ _ _
    have kh3 : ks1.1 (y + 1) = .inl (0, 82, .inl g) := by rw [e_ks1, zup_ne _ _ (by omega)]; exact k1
    have kF4 := zFr.put hFr e_ks1 (by first | omega | simp)
    have kR5 : zWa y ks1 := zWa.fr kW (zFr.put (P := fun q => q = y) zFr.rf e_ks1 rfl) (by intro q h1 h2 h3; (try simp only [zIn, zJf] at h3); omega)
    have kR6 : zXa y ks1 := zXa.fr kX (zFr.put (P := fun q => q = y) zFr.rf e_ks1 rfl) (by intro q h1 h2 h3; (try simp only [zIn, zJf] at h3); omega)
    refine zr_iconst (v := 0) dX10_caseByBraid_103 (by decide) ?_
    exact zr_ireturn dX10_caseByBraid_104 rfl (rfl) (⟨_, rfl, _, kF4, kR5, kR6, Or.inr ⟨hz, kh2⟩⟩)
  | succ j ih =>
    intro k s v x3 x4 x5 hk hFr k0 kW kX hz
    obtain ⟨r0, r1, rc, rp⟩ := id gr
    obtain ⟨hC8, hP8, hW⟩ := id hA
    have k1 := zFr.get hFr (by omega) h1
    refine zr_iload_n dX10_caseByBraid_2 rfl ?_
    refine zr_aload_n dX10_caseByBraid_3 rfl ?_
    refine zr_getM (v := .ref (y + 1)) dX10_caseByBraid_4 fX10_7 k0 rfl ?_
    refine zr_iconst (v := 0) dX10_caseByBraid_7 (by decide) ?_
    refine zr_iaload dX10_caseByBraid_8 k1 (vp_in_nI (n := 0) (by omega) (by omega)) ?_
    rw [show (0 : Int32).toNatClampNeg = 0 from by decide]
    refine zr_eqi (x' := nI (kC A)) (r0) ?_
    refine zr_icmp_ge (tgt := 98) dX10_caseByBraid_9 (by decide) (fun c_9 => absurd c_9 (fun h => absurd ((nI_leI (a := kC A) (b := k) (by omega) (by omega)).mp h) (by omega))) (fun c_9 => ?_)
    refine zr_iconst (v := 0) dX10_caseByBraid_12 (by decide) ?_
    refine zr_istore_n (ls' := [some (.ref y), some (.int r), some (.int (nI k)), some (.int 0), x4, x5]) dX10_caseByBraid_13 rfl (by decide) rfl ?_
    refine zr_iconst (v := 0) dX10_caseByBraid_14 (by decide) ?_
    refine zr_istore (ls' := [some (.ref y), some (.int r), some (.int (nI k)), some (.int 0), some (.int 0), x5]) dX10_caseByBraid_15 (by decide) rfl ?_
    refine l_cb2 hX h0 h1 gr hA (k := k) (by omega) hself (fun s2 v2 x6 hF2 k02 kW2 kX2 => ?_) (kC A) 0 _ v 0 x5 (by omega) hFr k0 kW kX rfl
    have k12 := zFr.get hF2 (by omega) h1
    refine zr_iload_n dX10_caseByBraid_77 rfl ?_
    refine zr_iload_n dX10_caseByBraid_78 rfl ?_
    refine zr_icmp_eq (tgt := 85) dX10_caseByBraid_79 (by decide) (fun c_79 => ?_) (fun c_79 => ?_)
    · refine zr_aload_n dX10_caseByBraid_85 rfl ?_
      refine zr_iconst (v := 0) dX10_caseByBraid_86 (by decide) ?_
      refine zr_putM (v := 0) dX10_caseByBraid_87 pX10_49 k02 (rfl) (rfl) (Nat.le_of_ble_eq_true rfl) (zms_8 _ _ _) ?_
      refine zr_sig (fun ks1 e_ks1 => ?_)
      have kh2 : ks1.1 y = zmO y (upd (upd F 8 0) 19 v2) := by rw [e_ks1]; exact zup_at _ _ _
      have kh3 : ks1.1 (y + 1) = .inl (0, 82, .inl g) := by rw [e_ks1, zup_ne _ _ (by omega)]; exact k12
      have kF4 := zFr.put hF2 e_ks1 (by first | omega | simp)
      have kR5 : zWa y ks1 := zWa.fr kW2 (zFr.put (P := fun q => q = y) zFr.rf e_ks1 rfl) (by intro q h1 h2 h3; (try simp only [zIn, zJf] at h3); omega)
      have kR6 : zXa y ks1 := zXa.fr kX2 (zFr.put (P := fun q => q = y) zFr.rf e_ks1 rfl) (by intro q h1 h2 h3; (try simp only [zIn, zJf] at h3); omega)
      refine zr_iload_n dX10_caseByBraid_90 rfl ?_
      exact zr_ireturn dX10_caseByBraid_91 rfl (rfl) (⟨_, rfl, _, kF4, kR5, kR6, Or.inl ⟨by rw [hz]; simp only [zCk]; rw [if_pos c_79]; exact nI_ne k (by omega), by rw [hz]; simp only [zCk]; rw [if_pos c_79], kh2⟩⟩)
    · refine zr_goto (tgt := 92) dX10_caseByBraid_82 (by decide) ?_
      refine zr_iinc (v := nI (k + 1)) (ls' := [some (.ref y), some (.int r), some (.int (nI (k + 1))), some (.int (nI (zRk A k (kC A)))), some (.int (nI (kC A))), x6]) dX10_caseByBraid_92 rfl (nI_1 _) (by decide) rfl ?_
      refine zr_goto (tgt := 2) dX10_caseByBraid_95 (by decide) ?_
      exact ih (k + 1) _ _ _ _ _ (by omega) (hF2) (k02) (kW2) (kX2) (by rw [hz]; simp only [zCk]; rw [if_neg c_79])
    

set_option maxHeartbeats 400000 in
set_option maxRecDepth 100000 in
theorem qX10_caseByBraid {X : zX} (hX : X.1.stackTraces = false) {σ : zS} {y : Nat} {w tm cd dn : Int32} {K : zDk} {A S : zDk} {m : Nat} {U : Nat → zDk} {n : Nat} {T : Nat → Int32} {ll : Nat} {ln : Nat → Int32} {hs kf ld dt dc : Int32} {r : Int32} (hM : zMo y w tm cd dn K A S m U n T ll ln hs kf ld dt dc σ) (gA : zGd A) (hself : ∀ k, k < kC A → zqs A k k = 0) (hz : ¬ zCk A r 0 (kC A) = -1) : zMet X mX10_caseByBraid yX10_caseByBraid 5 0 0 [.ref y, .int r] σ (zI (fun y_ s => y_ = zCk A r 0 (kC A) ∧ zFr σ s (zMq y) ∧ zMo y w tm 0 dn K A S m U n T ll ln hs kf ld dt dc s)) := by
  refine zMet_of (ls := [some (.ref y), some (.int r), none, none, none, none]) rfl (by decide +kernel) rfl (fun h => by cases h) hX (Nat.le_of_ble_eq_true rfl) rfl ?_
  obtain ⟨F, g, kp, sv, bf, ip, sg, td, h0, hf, h1, h2, h3, h4, h5, h6, h11, hWa, hC, hX9, hOt, gr, gS, gK, hm8, gU, hn60, hT, hll, hln⟩ := id hM
  obtain ⟨f4, f5, f6, f7, f8, f9, f10, f11, f13, f14, f16, f27⟩ := id hf
  have hA := gA.1
  obtain ⟨r0, r1, rc, rp⟩ := id gr
  obtain ⟨hC8, hP8, hW⟩ := id hA
  refine zr_iconst (v := 0) dX10_caseByBraid_0 (by decide) ?_
  refine zr_istore_n (ls' := [some (.ref y), some (.int r), some (.int 0), none, none, none]) dX10_caseByBraid_1 rfl (by decide) rfl ?_
  refine (l_cb1 hX h0 h1 gr hA hself (kC A) 0 σ (F 19) _ _ _ (by omega) zFr.rf (by rw [h0]; exact zmO_cg (fun k _ => by simp only [upd]; split; (rename_i e7; rw [e7]); rfl)) hWa hX9 rfl).mono (fun o s q => ?_)
  obtain ⟨r1, e1, v, F1, kW, kX, q⟩ := q
  have kF := zFr.tr (P := zMq y) zFr.rf F1 (by intro q hq; unfold zMq; omega)
  obtain ⟨-, e2, k0⟩ := q.resolve_right (fun z => hz z.1)
  have kh1 : s.1 (y + 1) = .inl (0, 82, .inl g) := zFr.get F1 (by omega) h1
  have kh2 : s.1 (y + 2) = .inl (0, 656, .inl kp) := zFr.get F1 (by omega) h2
  have kh3 : s.1 (y + 3) = .inl (0, 82, .inl sv) := zFr.get F1 (by omega) h3
  have kh4 : s.1 (y + 4) = .inl (0, 82, .inl bf) := zFr.get F1 (by omega) h4
  have kh5 : s.1 (y + 5) = .inl (0, 60, .inl ip) := zFr.get F1 (by omega) h5
  have kh6 : s.1 (y + 6) = .inl (1, 400, .inl sg) := zFr.get F1 (by omega) h6
  have kh7 : s.1 (y + 11) = .inl (0, 93, .inl td) := zFr.get F1 (by omega) h11
  have kq8 := zCy.fr hC F1 (by intro q a b c; omega)
  have kq10 := zOa.fr hOt F1 (by intro q a b c; omega)
  exact ⟨r1, e1, e2, kF, ⟨_, _, _, _, _, _, _, _, k0, ⟨f4, f5, f6, f7, rfl, f9, f10, f11, f13, f14, f16, f27⟩, kh1, kh2, kh3, kh4, kh5, kh6, kh7, kW, kq8, kX, kq10, gr, gS, gK, hm8, gU, hn60, hT, hll, hln⟩⟩

set_option maxHeartbeats 400000 in
set_option maxRecDepth 100000 in
theorem qX10_caseByBraidN {X : zX} (hX : X.1.stackTraces = false) {σ : zS} {y : Nat} {w tm cd dn : Int32} {K : zDk} {A S : zDk} {m : Nat} {U : Nat → zDk} {n : Nat} {T : Nat → Int32} {ll : Nat} {ln : Nat → Int32} {hs kf ld dt dc : Int32} {r : Int32} (hM : zMo y w tm cd dn K A S m U n T ll ln hs kf ld dt dc σ) (gA : zGd A) (hself : ∀ k, k < kC A → zqs A k k = 0) (hz : zCk A r 0 (kC A) = -1) : zMet X mX10_caseByBraid yX10_caseByBraid 5 0 0 [.ref y, .int r] σ (zI (fun y_ s => True ∧ zFr σ s (zMq y) ∧ zMo y w tm 1 dn K A S m U n T ll ln hs kf ld dt dc s)) := by
  refine zMet_of (ls := [some (.ref y), some (.int r), none, none, none, none]) rfl (by decide +kernel) rfl (fun h => by cases h) hX (Nat.le_of_ble_eq_true rfl) rfl ?_
  obtain ⟨F, g, kp, sv, bf, ip, sg, td, h0, hf, h1, h2, h3, h4, h5, h6, h11, hWa, hC, hX9, hOt, gr, gS, gK, hm8, gU, hn60, hT, hll, hln⟩ := id hM
  obtain ⟨f4, f5, f6, f7, f8, f9, f10, f11, f13, f14, f16, f27⟩ := id hf
  have hA := gA.1
  obtain ⟨r0, r1, rc, rp⟩ := id gr
  obtain ⟨hC8, hP8, hW⟩ := id hA
  refine zr_iconst (v := 0) dX10_caseByBraid_0 (by decide) ?_
  refine zr_istore_n (ls' := [some (.ref y), some (.int r), some (.int 0), none, none, none]) dX10_caseByBraid_1 rfl (by decide) rfl ?_
  refine (l_cb1 hX h0 h1 gr hA hself (kC A) 0 σ (F 19) _ _ _ (by omega) zFr.rf (by rw [h0]; exact zmO_cg (fun k _ => by simp only [upd]; split; (rename_i e7; rw [e7]); rfl)) hWa hX9 rfl).mono (fun o s q => ?_)
  obtain ⟨r1, e1, v, F1, kW, kX, q⟩ := q
  have kF := zFr.tr (P := zMq y) zFr.rf F1 (by intro q hq; unfold zMq; omega)
  obtain ⟨-, k0⟩ := q.resolve_left (fun z => z.1 hz)
  have kh1 : s.1 (y + 1) = .inl (0, 82, .inl g) := zFr.get F1 (by omega) h1
  have kh2 : s.1 (y + 2) = .inl (0, 656, .inl kp) := zFr.get F1 (by omega) h2
  have kh3 : s.1 (y + 3) = .inl (0, 82, .inl sv) := zFr.get F1 (by omega) h3
  have kh4 : s.1 (y + 4) = .inl (0, 82, .inl bf) := zFr.get F1 (by omega) h4
  have kh5 : s.1 (y + 5) = .inl (0, 60, .inl ip) := zFr.get F1 (by omega) h5
  have kh6 : s.1 (y + 6) = .inl (1, 400, .inl sg) := zFr.get F1 (by omega) h6
  have kh7 : s.1 (y + 11) = .inl (0, 93, .inl td) := zFr.get F1 (by omega) h11
  have kq8 := zCy.fr hC F1 (by intro q a b c; omega)
  have kq10 := zOa.fr hOt F1 (by intro q a b c; omega)
  exact ⟨r1, e1, trivial, kF, ⟨_, _, _, _, _, _, _, _, k0, ⟨f4, f5, f6, f7, rfl, f9, f10, f11, f13, f14, f16, f27⟩, kh1, kh2, kh3, kh4, kh5, kh6, kh7, kW, kq8, kX, kq10, gr, gS, gK, hm8, gU, hn60, hT, hll, hln⟩⟩

