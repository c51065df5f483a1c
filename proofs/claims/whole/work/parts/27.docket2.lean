def zuN (f : Nat → Nat) (k : Nat) (x : Nat) : Nat → Nat := fun j => if j = k then x else f j
theorem zuN_at (f : Nat → Nat) (k x : Nat) : zuN f k x k = x := by simp [zuN]
theorem zuN_ne (f : Nat → Nat) {k j : Nat} (x : Nat) (h : j ≠ k) : zuN f k x j = f j := by simp [zuN, h]
def zuL (f : Nat → Nat → Int32) (k : Nat) (x : Nat → Int32) : Nat → Nat → Int32 := fun j => if j = k then x else f j
theorem zuL_at (f : Nat → Nat → Int32) (k : Nat) (x : Nat → Int32) : zuL f k x k = x := by simp [zuL]
theorem zuL_ne (f : Nat → Nat → Int32) {k j : Nat} (x : Nat → Int32) (h : j ≠ k) : zuL f k x j = f j := by simp [zuL, h]
theorem nar01 {x : Int32} (h : x = 0 ∨ x = 1) : vp_nar .boolean x = x := by rcases h with rfl | rfl <;> decide +kernel
def aCase (A : zDk) : zDk := (kC A + 1, kP A, upd (kR A) (kC A) (-1), kM A, kT A, kA A, zuN (kN A) (kC A) 0, kL A)
def aPrec (A : zDk) (c : Nat) (v : Int32) : zDk := (kC A, kP A + 1, kR A, upd (kM A) (kP A) (nI c), upd (kT A) (kP A) v, upd (kA A) (kP A) 0, kN A, kL A)
def zIb (b : Nat) (σ s : zS) : Prop := zFr σ s (zIn b)
set_option maxHeartbeats 400000 in
set_option maxRecDepth 100000 in
theorem qX3_addCase {X : zX} (hX : X.1.stackTraces = false) {σ : zS} {b : Nat} {A : zDk} (h : zDA b A σ) (hA : zDw A) (hC8 : kC A < 8) : zMet X mX3_addCase yX3_addCase 1 0 0 [.ref b] σ (zI (fun y_ s => y_ = nI (kC A) ∧ zFr σ s (zIn b) ∧ zDA b (aCase A) s)) := by
  refine zMet_of (ls := [some (.ref b), none]) rfl (by decide +kernel) rfl (fun h => by cases h) hX (Nat.le_of_ble_eq_true rfl) rfl ?_
  have h0 := h
  obtain ⟨wr, r, m, t, a, f, c0, c1, c2, c3, c4, c5, cw⟩ := h
  refine zr_aload_n dX3_addCase_0 rfl ?_
  refine zr_pVi [] dX3_addCase_1 vX3_43 (qX3_isFull hX h0 hA) c0 (by decide) (by decide) (by decide) rfl rfl (Nat.le_of_ble_eq_true rfl) (by decide) rfl ?_
  refine zr_if_eq (tgt := 9) dX3_addCase_4 (by decide) (fun c_4 => ?_) (fun c_4 => absurd (by rw [if_pos hC8]) c_4)
  refine zr_aload_n dX3_addCase_9 rfl ?_
  refine zr_getfield dX3_addCase_10 fX3_31 c0 rfl (by decide) ?_
  refine zr_istore_n (ls' := [some (.ref b), some (.int (nI (kC A)))]) dX3_addCase_13 rfl (by decide) rfl ?_
  obtain ⟨e_n, a_n, w0_n, w1_n, l_n⟩ := cw (kC A) (by omega)
  refine zr_aload_n dX3_addCase_14 rfl ?_
  refine zr_getfield dX3_addCase_15 fX3_11 c0 rfl (by decide) ?_
  refine zr_iload_n dX3_addCase_18 rfl ?_
  refine zr_aaload6 (b := (b + 6 + 2 * (kC A))) dX3_addCase_19 c1 (vp_in_nI (n := kC A) (by omega) (by omega)) (by rw [nI_clamp (by omega)]; exact e_n) ?_
  refine zr_iconst (v := 0) dX3_addCase_20 (by decide) ?_
  refine zr_putfield (fs' := [.ref ((b + 6 + 2 * (kC A) + 1)), .int 0]) dX3_addCase_21 pX3_47 w0_n (by decide) (rfl) (rfl) (Nat.le_of_ble_eq_true rfl) rfl ?_
  refine zr_sig (fun ks1 e_ks1 => ?_)
  have kh2 : ks1.1 b = .inr (1, [.ref ((b + 1)), .ref ((b + 2)), .ref ((b + 3)), .ref ((b + 4)), .ref ((b + 5)), .int (nI (kC A)), .int (nI (kP A))]) := by rw [e_ks1, zup_ne _ _ (by omega)]; exact c0
  have kh3 : ks1.1 (b + 1) = .inl (6, 8, .inr (.inr (.inr (.inr wr)))) := by rw [e_ks1, zup_ne _ _ (by omega)]; exact c1
  have kh4 : ks1.1 (b + 2) = .inl (0, 8, .inl r) := by rw [e_ks1, zup_ne _ _ (by omega)]; exact c2
  have kh5 : ks1.1 (b + 3) = .inl (0, 8, .inl m) := by rw [e_ks1, zup_ne _ _ (by omega)]; exact c3
  have kh6 : ks1.1 (b + 4) = .inl (2, 8, .inl t) := by rw [e_ks1, zup_ne _ _ (by omega)]; exact c4
  have kh7 : ks1.1 (b + 5) = .inl (2, 8, .inl a) := by rw [e_ks1, zup_ne _ _ (by omega)]; exact c5
  have kh8 : ks1.1 (b + 6 + 2 * (kC A)) = .inr (6, [.ref ((b + 6 + 2 * (kC A) + 1)), .int 0]) := by rw [e_ks1]; exact zup_at _ _ _
  have kh9 : ks1.1 (b + 6 + 2 * (kC A) + 1) = .inl (0, 16, .inl (f (kC A))) := by rw [e_ks1, zup_ne _ _ (by omega)]; exact w1_n
  have kF10 := zFr.put zFr.rf (P := fun q => q = b ∨ q = b + 2 ∨ q = b + 6 + 2 * kC A) e_ks1 (by first | omega | simp)
  refine zr_aload_n dX3_addCase_24 rfl ?_
  refine zr_getfield dX3_addCase_25 fX3_17 kh2 rfl (by decide) ?_
  refine zr_iload_n dX3_addCase_28 rfl ?_
  refine zr_iconst (v := -1) dX3_addCase_29 (by decide) ?_
  refine zr_iastore dX3_addCase_30 kh4 (vp_in_nI (n := kC A) (by omega) (by omega)) ?_
  rw [nI_clamp (n := kC A) (by omega)]
  refine zr_sig (fun ks11 e_ks11 => ?_)
  have kh12 : ks11.1 b = .inr (1, [.ref ((b + 1)), .ref ((b + 2)), .ref ((b + 3)), .ref ((b + 4)), .ref ((b + 5)), .int (nI (kC A)), .int (nI (kP A))]) := by rw [e_ks11, zup_ne _ _ (by omega)]; exact kh2
  have kh13 : ks11.1 (b + 1) = .inl (6, 8, .inr (.inr (.inr (.inr wr)))) := by rw [e_ks11, zup_ne _ _ (by omega)]; exact kh3
  have kh14 : ks11.1 (b + 2) = .inl (0, 8, .inl (upd r (kC A) (-1))) := by rw [e_ks11]; exact zup_at _ _ _
  have kh15 : ks11.1 (b + 3) = .inl (0, 8, .inl m) := by rw [e_ks11, zup_ne _ _ (by omega)]; exact kh5
  have kh16 : ks11.1 (b + 4) = .inl (2, 8, .inl t) := by rw [e_ks11, zup_ne _ _ (by omega)]; exact kh6
  have kh17 : ks11.1 (b + 5) = .inl (2, 8, .inl a) := by rw [e_ks11, zup_ne _ _ (by omega)]; exact kh7
  have kh18 : ks11.1 (b + 6 + 2 * (kC A)) = .inr (6, [.ref ((b + 6 + 2 * (kC A) + 1)), .int 0]) := by rw [e_ks11, zup_ne _ _ (by omega)]; exact kh8
  have kh19 : ks11.1 (b + 6 + 2 * (kC A) + 1) = .inl (0, 16, .inl (f (kC A))) := by rw [e_ks11, zup_ne _ _ (by omega)]; exact kh9
  have kF20 := zFr.put kF10 e_ks11 (by first | omega | simp)
  refine zr_aload_n dX3_addCase_31 rfl ?_
  refine zr_dup dX3_addCase_32 rfl ?_
  refine zr_getfield dX3_addCase_33 fX3_31 kh12 rfl (by decide) ?_
  refine zr_iconst (v := 1) dX3_addCase_36 (by decide) ?_
  refine zr_iadd dX3_addCase_37 ?_
  refine zr_eqi (x' := nI ((kC A) + 1)) (nI_add (kC A) 1) ?_
  refine zr_putfield (fs' := [.ref ((b + 1)), .ref ((b + 2)), .ref ((b + 3)), .ref ((b + 4)), .ref ((b + 5)), .int (nI ((kC A) + 1)), .int (nI (kP A))]) dX3_addCase_38 pX3_31 kh12 (by decide) (rfl) (rfl) (Nat.le_of_ble_eq_true rfl) rfl ?_
  refine zr_sig (fun ks21 e_ks21 => ?_)
  have kh22 : ks21.1 b = .inr (1, [.ref ((b + 1)), .ref ((b + 2)), .ref ((b + 3)), .ref ((b + 4)), .ref ((b + 5)), .int (nI ((kC A) + 1)), .int (nI (kP A))]) := by rw [e_ks21]; exact zup_at _ _ _
  have kh23 : ks21.1 (b + 1) = .inl (6, 8, .inr (.inr (.inr (.inr wr)))) := by rw [e_ks21, zup_ne _ _ (by omega)]; exact kh13
  have kh24 : ks21.1 (b + 2) = .inl (0, 8, .inl (upd r (kC A) (-1))) := by rw [e_ks21, zup_ne _ _ (by omega)]; exact kh14
  have kh25 : ks21.1 (b + 3) = .inl (0, 8, .inl m) := by rw [e_ks21, zup_ne _ _ (by omega)]; exact kh15
  have kh26 : ks21.1 (b + 4) = .inl (2, 8, .inl t) := by rw [e_ks21, zup_ne _ _ (by omega)]; exact kh16
  have kh27 : ks21.1 (b + 5) = .inl (2, 8, .inl a) := by rw [e_ks21, zup_ne _ _ (by omega)]; exact kh17
  have kh28 : ks21.1 (b + 6 + 2 * (kC A)) = .inr (6, [.ref ((b + 6 + 2 * (kC A) + 1)), .int 0]) := by rw [e_ks21, zup_ne _ _ (by omega)]; exact kh18
  have kh29 : ks21.1 (b + 6 + 2 * (kC A) + 1) = .inl (0, 16, .inl (f (kC A))) := by rw [e_ks21, zup_ne _ _ (by omega)]; exact kh19
  have kF30 := zFr.put kF20 e_ks21 (by first | omega | simp)
  refine zr_iload_n dX3_addCase_41 rfl ?_
  refine zr_ireturn dX3_addCase_42 rfl (rfl) ?_
  refine ⟨_, rfl, rfl, zFr.w kF30 (by intro q hq; unfold zIn; omega), wr, upd r (kC A) (-1), m, t, a, f, kh22, kh23, kh24, kh25, kh26, kh27, fun i hi => ?_⟩
  obtain ⟨g1, g2, g3, g4, g5⟩ := cw i hi
  by_cases e : i = kC A
  · subst e; exact ⟨g1, ⟨by rw [upd_at]; exact (upd_at _ _ _).symm, g2.2⟩, by rw [show kN (aCase A) (kC A) = 0 from zuN_at _ _ _]; exact kh28, kh29, fun k hk => by rw [show kN (aCase A) (kC A) = 0 from zuN_at _ _ _] at hk; omega⟩
  · rw [show kN (aCase A) i = kN A i from zuN_ne _ _ e]; exact ⟨g1, ⟨by rw [upd_ne _ _ e]; exact g2.1.trans (upd_ne _ _ e).symm, g2.2⟩, zFr.get kF30 (by omega) g3, zFr.get kF30 (by omega) g4, g5⟩

set_option maxHeartbeats 400000 in
set_option maxRecDepth 100000 in
theorem qX3_addPrecedent {X : zX} (hX : X.1.stackTraces = false) {σ : zS} {b : Nat} {A : zDk} {c : Nat} {v : Int32} (h : zDA b A σ) (hA : zDw A) (hP8 : kP A < 8) (hv : v = 0 ∨ v = 1) : zMet X mX3_addPrecedent yX3_addPrecedent 0 0 0 [.ref b, .int (nI c), .int v] σ (zI (fun y_ s => y_ = nI (kP A) ∧ zFr σ s (zIn b) ∧ zDA b (aPrec A c v) s)) := by
  refine zMet_of (ls := [some (.ref b), some (.int (nI c)), some (.int v), none]) rfl (by decide +kernel) rfl (fun h => by cases h) hX (Nat.le_of_ble_eq_true rfl) rfl ?_
  obtain ⟨wr, r, m, t, a, f, c0, c1, c2, c3, c4, c5, cw⟩ := h
  obtain ⟨hC, hP, hW⟩ := hA
  refine zr_aload_n dX3_addPrecedent_0 rfl ?_
  refine zr_getfield dX3_addPrecedent_1 fX3_35 c0 rfl (by decide) ?_
  refine zr_bipush (v := 8) dX3_addPrecedent_4 (by decide) ?_
  refine zr_icmp_lt (tgt := 11) dX3_addPrecedent_6 (by decide) (fun c_6 => ?_) (fun c_6 => absurd ((nI_ltI (a := kP A) (b := 8) (by omega) (by omega)).mpr (by omega)) c_6)
  refine zr_aload_n dX3_addPrecedent_11 rfl ?_
  refine zr_getfield dX3_addPrecedent_12 fX3_35 c0 rfl (by decide) ?_
  refine zr_istore_n (ls' := [some (.ref b), some (.int (nI c)), some (.int v), some (.int (nI (kP A)))]) dX3_addPrecedent_15 rfl (by decide) rfl ?_
  refine zr_aload_n dX3_addPrecedent_16 rfl ?_
  refine zr_getfield dX3_addPrecedent_17 fX3_21 c0 rfl (by decide) ?_
  refine zr_iload_n dX3_addPrecedent_20 rfl ?_
  refine zr_iload_n dX3_addPrecedent_21 rfl ?_
  refine zr_iastore dX3_addPrecedent_22 c3 (vp_in_nI (n := kP A) (by omega) (by omega)) ?_
  rw [nI_clamp (n := kP A) (by omega)]
  refine zr_sig (fun ks1 e_ks1 => ?_)
  have kh2 : ks1.1 b = .inr (1, [.ref ((b + 1)), .ref ((b + 2)), .ref ((b + 3)), .ref ((b + 4)), .ref ((b + 5)), .int (nI (kC A)), .int (nI (kP A))]) := by rw [e_ks1, zup_ne _ _ (by omega)]; exact c0
  have kh3 : ks1.1 (b + 1) = .inl (6, 8, .inr (.inr (.inr (.inr wr)))) := by rw [e_ks1, zup_ne _ _ (by omega)]; exact c1
  have kh4 : ks1.1 (b + 2) = .inl (0, 8, .inl r) := by rw [e_ks1, zup_ne _ _ (by omega)]; exact c2
  have kh5 : ks1.1 (b + 3) = .inl (0, 8, .inl (upd m (kP A) (nI c))) := by rw [e_ks1]; exact zup_at _ _ _
  have kh6 : ks1.1 (b + 4) = .inl (2, 8, .inl t) := by rw [e_ks1, zup_ne _ _ (by omega)]; exact c4
  have kh7 : ks1.1 (b + 5) = .inl (2, 8, .inl a) := by rw [e_ks1, zup_ne _ _ (by omega)]; exact c5
  have kF8 := zFr.put zFr.rf (P := fun q => q = b ∨ q = b + 3 ∨ q = b + 4 ∨ q = b + 5) e_ks1 (by first | omega | simp)
  refine zr_aload_n dX3_addPrecedent_23 rfl ?_
  refine zr_getfield dX3_addPrecedent_24 fX3_24 kh2 rfl (by decide) ?_
  refine zr_iload_n dX3_addPrecedent_27 rfl ?_
  refine zr_iload_n dX3_addPrecedent_28 rfl ?_
  refine zr_bastore dX3_addPrecedent_29 kh6 (vp_in_nI (n := kP A) (by omega) (by omega)) (nar01 hv) ?_
  rw [nI_clamp (n := kP A) (by omega)]
  refine zr_sig (fun ks9 e_ks9 => ?_)
  have kh10 : ks9.1 b = .inr (1, [.ref ((b + 1)), .ref ((b + 2)), .ref ((b + 3)), .ref ((b + 4)), .ref ((b + 5)), .int (nI (kC A)), .int (nI (kP A))]) := by rw [e_ks9, zup_ne _ _ (by omega)]; exact kh2
  have kh11 : ks9.1 (b + 1) = .inl (6, 8, .inr (.inr (.inr (.inr wr)))) := by rw [e_ks9, zup_ne _ _ (by omega)]; exact kh3
  have kh12 : ks9.1 (b + 2) = .inl (0, 8, .inl r) := by rw [e_ks9, zup_ne _ _ (by omega)]; exact kh4
  have kh13 : ks9.1 (b + 3) = .inl (0, 8, .inl (upd m (kP A) (nI c))) := by rw [e_ks9, zup_ne _ _ (by omega)]; exact kh5
  have kh14 : ks9.1 (b + 4) = .inl (2, 8, .inl (upd t (kP A) v)) := by rw [e_ks9]; exact zup_at _ _ _
  have kh15 : ks9.1 (b + 5) = .inl (2, 8, .inl a) := by rw [e_ks9, zup_ne _ _ (by omega)]; exact kh7
  have kF16 := zFr.put kF8 e_ks9 (by first | omega | simp)
  refine zr_aload_n dX3_addPrecedent_30 rfl ?_
  refine zr_getfield dX3_addPrecedent_31 fX3_28 kh10 rfl (by decide) ?_
  refine zr_iload_n dX3_addPrecedent_34 rfl ?_
  refine zr_iconst (v := 0) dX3_addPrecedent_35 (by decide) ?_
  refine zr_bastore dX3_addPrecedent_36 kh15 (vp_in_nI (n := kP A) (by omega) (by omega)) (by decide) ?_
  rw [nI_clamp (n := kP A) (by omega)]
  refine zr_sig (fun ks17 e_ks17 => ?_)
  have kh18 : ks17.1 b = .inr (1, [.ref ((b + 1)), .ref ((b + 2)), .ref ((b + 3)), .ref ((b + 4)), .ref ((b + 5)), .int (nI (kC A)), .int (nI (kP A))]) := by rw [e_ks17, zup_ne _ _ (by omega)]; exact kh10
  have kh19 : ks17.1 (b + 1) = .inl (6, 8, .inr (.inr (.inr (.inr wr)))) := by rw [e_ks17, zup_ne _ _ (by omega)]; exact kh11
  have kh20 : ks17.1 (b + 2) = .inl (0, 8, .inl r) := by rw [e_ks17, zup_ne _ _ (by omega)]; exact kh12
  have kh21 : ks17.1 (b + 3) = .inl (0, 8, .inl (upd m (kP A) (nI c))) := by rw [e_ks17, zup_ne _ _ (by omega)]; exact kh13
  have kh22 : ks17.1 (b + 4) = .inl (2, 8, .inl (upd t (kP A) v)) := by rw [e_ks17, zup_ne _ _ (by omega)]; exact kh14
  have kh23 : ks17.1 (b + 5) = .inl (2, 8, .inl (upd a (kP A) 0)) := by rw [e_ks17]; exact zup_at _ _ _
  have kF24 := zFr.put kF16 e_ks17 (by first | omega | simp)
  refine zr_aload_n dX3_addPrecedent_37 rfl ?_
  refine zr_dup dX3_addPrecedent_38 rfl ?_
  refine zr_getfield dX3_addPrecedent_39 fX3_35 kh18 rfl (by decide) ?_
  refine zr_iconst (v := 1) dX3_addPrecedent_42 (by decide) ?_
  refine zr_iadd dX3_addPrecedent_43 ?_
  refine zr_eqi (x' := nI ((kP A) + 1)) (nI_add (kP A) 1) ?_
  refine zr_putfield (fs' := [.ref ((b + 1)), .ref ((b + 2)), .ref ((b + 3)), .ref ((b + 4)), .ref ((b + 5)), .int (nI (kC A)), .int (nI ((kP A) + 1))]) dX3_addPrecedent_44 pX3_35 kh18 (by decide) (rfl) (rfl) (Nat.le_of_ble_eq_true rfl) rfl ?_
  refine zr_sig (fun ks25 e_ks25 => ?_)
  have kh26 : ks25.1 b = .inr (1, [.ref ((b + 1)), .ref ((b + 2)), .ref ((b + 3)), .ref ((b + 4)), .ref ((b + 5)), .int (nI (kC A)), .int (nI ((kP A) + 1))]) := by rw [e_ks25]; exact zup_at _ _ _
  have kh27 : ks25.1 (b + 1) = .inl (6, 8, .inr (.inr (.inr (.inr wr)))) := by rw [e_ks25, zup_ne _ _ (by omega)]; exact kh19
  have kh28 : ks25.1 (b + 2) = .inl (0, 8, .inl r) := by rw [e_ks25, zup_ne _ _ (by omega)]; exact kh20
  have kh29 : ks25.1 (b + 3) = .inl (0, 8, .inl (upd m (kP A) (nI c))) := by rw [e_ks25, zup_ne _ _ (by omega)]; exact kh21
  have kh30 : ks25.1 (b + 4) = .inl (2, 8, .inl (upd t (kP A) v)) := by rw [e_ks25, zup_ne _ _ (by omega)]; exact kh22
  have kh31 : ks25.1 (b + 5) = .inl (2, 8, .inl (upd a (kP A) 0)) := by rw [e_ks25, zup_ne _ _ (by omega)]; exact kh23
  have kF32 := zFr.put kF24 e_ks25 (by first | omega | simp)
  refine zr_iload_n dX3_addPrecedent_47 rfl ?_
  refine zr_ireturn dX3_addPrecedent_48 rfl (rfl) ?_
  refine ⟨_, rfl, rfl, zFr.w kF32 (by intro q hq; unfold zIn; omega), wr, r, upd m (kP A) (nI c), upd t (kP A) v, upd a (kP A) 0, f, kh26, kh27, kh28, kh29, kh30, kh31, fun i hi => ?_⟩
  obtain ⟨g1, g2, g3, g4, g5⟩ := cw i hi
  refine ⟨g1, ⟨g2.1, ?_, ?_, ?_⟩, zFr.get kF32 (by omega) g3, zFr.get kF32 (by omega) g4, g5⟩
  · show upd m (kP A) (nI c) i = upd (kM A) (kP A) (nI c) i; simp only [upd, g2.2.1]
  · show upd t (kP A) v i = upd (kT A) (kP A) v i; simp only [upd, g2.2.2.1]
  · show upd a (kP A) 0 i = upd (kA A) (kP A) 0 i; simp only [upd, g2.2.2.2]

/-- i cases of a docket have been copied -/
def zCpI (b : Nat) (O : zDk) (v5 v6 : Value) (i : Nat) (s : zS) : Prop := ∃ (wr : Nat → Option Nat) (r m t a : Nat → Int32) (f : Nat → Nat → Int32) (v : Nat → Value),
  s.1 b = .inr (1, [.ref (b + 1), .ref (b + 2), .ref (b + 3), .ref (b + 4), .ref (b + 5), v5, v6]) ∧
  s.1 (b + 1) = .inl (6, 8, .inr (.inr (.inr (.inr wr)))) ∧ s.1 (b + 2) = .inl (0, 8, .inl r) ∧ s.1 (b + 3) = .inl (0, 8, .inl m) ∧ s.1 (b + 4) = .inl (2, 8, .inl t) ∧ s.1 (b + 5) = .inl (2, 8, .inl a) ∧
  ∀ k, k < 8 → wr k = some (b + 6 + 2 * k) ∧ s.1 (b + 6 + 2 * k) = .inr (6, [.ref (b + 6 + 2 * k + 1), v k]) ∧ s.1 (b + 6 + 2 * k + 1) = .inl (0, 16, .inl (f k)) ∧ (k < i → (r k = kR O k ∧ m k = kM O k ∧ t k = kT O k ∧ a k = kA O k) ∧ v k = .int (nI (kN O k)) ∧ ∀ j, j < kN O k → f k j = kL O k j)
theorem zCp_step {b i k : Nat} {O : zDk} {s s1 : zS} {wr : Nat → Option Nat} {r m t a ro mo to ao fo : Nat → Int32} {f : Nat → Nat → Int32} {v : Nat → Value} (hk : k < 8)
  (cw : wr k = some (b + 6 + 2 * k) ∧ s.1 (b + 6 + 2 * k) = .inr (6, [.ref (b + 6 + 2 * k + 1), v k]) ∧ s.1 (b + 6 + 2 * k + 1) = .inl (0, 16, .inl (f k)) ∧ (k < i → (r k = kR O k ∧ m k = kM O k ∧ t k = kT O k ∧ a k = kA O k) ∧ v k = .int (nI (kN O k)) ∧ ∀ j, j < kN O k → f k j = kL O k j))
  (w_ : wr i = some (b + 6 + 2 * i)) (xr : ro i = kR O i ∧ mo i = kM O i ∧ to i = kT O i ∧ ao i = kA O i) (x2 : ∀ j, j < kN O i → fo j = kL O i j)
  (h1 : s1.1 (b + 6 + 2 * i) = .inr (6, [.ref (b + 6 + 2 * i + 1), .int (nI (kN O i))])) (h2 : s1.1 (b + 6 + 2 * i + 1) = .inl (0, 16, .inl (zcpy (f i) fo (kN O i))))
  (h3 : k ≠ i → s1.1 (b + 6 + 2 * k) = .inr (6, [.ref (b + 6 + 2 * k + 1), v k])) (h4 : k ≠ i → s1.1 (b + 6 + 2 * k + 1) = .inl (0, 16, .inl (f k))) :
  wr k = some (b + 6 + 2 * k) ∧ s1.1 (b + 6 + 2 * k) = .inr (6, [.ref (b + 6 + 2 * k + 1), (fun k => if k = i then Value.int (nI (kN O i)) else v k) k]) ∧ s1.1 (b + 6 + 2 * k + 1) = .inl (0, 16, .inl (zuL f i (zcpy (f i) fo (kN O i)) k)) ∧ (k < i + 1 → (upd r i (ro i) k = kR O k ∧ upd m i (mo i) k = kM O k ∧ upd t i (to i) k = kT O k ∧ upd a i (ao i) k = kA O k) ∧ (fun k => if k = i then Value.int (nI (kN O i)) else v k) k = .int (nI (kN O k)) ∧ ∀ j, j < kN O k → zuL f i (zcpy (f i) fo (kN O i)) k j = kL O k j) := by
  by_cases e : k = i
  · subst e
    refine ⟨w_, by simpa using h1, by rw [zuL_at]; exact h2, fun _ => ⟨by simp only [upd_at]; exact xr, by simp, fun j hj => ?_⟩⟩
    rw [zuL_at]; simp only [zcpy]; rw [if_pos hj]; exact x2 j hj
  · refine ⟨cw.1, by simpa [e] using h3 e, by rw [zuL_ne _ _ e]; exact h4 e, fun h => ?_⟩
    obtain ⟨g1, g2, g3⟩ := cw.2.2.2 (by omega)
    exact ⟨by simp only [upd_ne _ _ e]; exact g1, by simpa [e] using g2, by rw [zuL_ne _ _ e]; exact g3⟩
set_option maxHeartbeats 400000 in
set_option maxRecDepth 100000 in
theorem l_cf {X : zX} (hX : X.1.stackTraces = false) {σ : zS} {b c : Nat} {O : zDk} {v5 v6 : Value} (ho : zDA c O σ) (hO : zDw O) (hbc : b + 22 ≤ c ∨ c + 22 ≤ b) : ∀ (j i : Nat) (s : zS), i + j = 8 → (zFr σ s (zIn b)) → (zCpI b O v5 v6 i s) → zW X mX3_copyFrom 3 0 0 (zV (fun s => zFr σ s (zIn b) ∧ zDA b O s)) 2 [some (.ref b), some (.ref c), some (.int (nI i))] [] s := by
  intro j
  induction j with
  | zero =>
    intro i s hi hF hc
    obtain ⟨wro, ro, mo, to, ao, fo, d0, d1, d2, d3, d4, d5, dw⟩ := zDA.fr ho hF (by intro q h1 h2 h3; unfold zIn at h3; omega)
    obtain ⟨wr, r, m, t, a, f, v, c0, c1, c2, c3, c4, c5, cw⟩ := hc
    refine zr_iload_n dX3_copyFrom_2 rfl ?_
    refine zr_bipush (v := 8) dX3_copyFrom_3 (by decide) ?_
    refine zr_icmp_ge (tgt := 77) dX3_copyFrom_5 (by decide) (fun c_5 => ?_) (fun c_5 => absurd ((nI_leI (a := 8) (b := i) (by omega) (by omega)).mpr (by omega)) c_5)
    refine zr_aload_n dX3_copyFrom_77 rfl ?_
    refine zr_aload_n dX3_copyFrom_78 rfl ?_
    refine zr_getfield dX3_copyFrom_79 fX3_31 d0 rfl (by decide) ?_
    refine zr_putfield (fs' := [.ref ((b + 1)), .ref ((b + 2)), .ref ((b + 3)), .ref ((b + 4)), .ref ((b + 5)), .int (nI (kC O)), v6]) dX3_copyFrom_82 pX3_31 c0 (by decide) (rfl) (rfl) (Nat.le_of_ble_eq_true rfl) rfl ?_
    refine zr_sig (fun ks1 e_ks1 => ?_)
    have kh2 : ks1.1 b = .inr (1, [.ref ((b + 1)), .ref ((b + 2)), .ref ((b + 3)), .ref ((b + 4)), .ref ((b + 5)), .int (nI (kC O)), v6]) := by rw [e_ks1]; exact zup_at _ _ _
    have kh3 : ks1.1 (b + 1) = .inl (6, 8, .inr (.inr (.inr (.inr wr)))) := by rw [e_ks1, zup_ne _ _ (by omega)]; exact c1
    have kh4 : ks1.1 (b + 2) = .inl (0, 8, .inl r) := by rw [e_ks1, zup_ne _ _ (by omega)]; exact c2
    have kh5 : ks1.1 (b + 3) = .inl (0, 8, .inl m) := by rw [e_ks1, zup_ne _ _ (by omega)]; exact c3
    have kh6 : ks1.1 (b + 4) = .inl (2, 8, .inl t) := by rw [e_ks1, zup_ne _ _ (by omega)]; exact c4
    have kh7 : ks1.1 (b + 5) = .inl (2, 8, .inl a) := by rw [e_ks1, zup_ne _ _ (by omega)]; exact c5
    have kh8 : ks1.1 c = .inr (1, [.ref ((c + 1)), .ref ((c + 2)), .ref ((c + 3)), .ref ((c + 4)), .ref ((c + 5)), .int (nI (kC O)), .int (nI (kP O))]) := by rw [e_ks1, zup_ne _ _ (by omega)]; exact d0
    have kh9 : ks1.1 (c + 1) = .inl (6, 8, .inr (.inr (.inr (.inr wro)))) := by rw [e_ks1, zup_ne _ _ (by omega)]; exact d1
    have kh10 : ks1.1 (c + 2) = .inl (0, 8, .inl ro) := by rw [e_ks1, zup_ne _ _ (by omega)]; exact d2
    have kh11 : ks1.1 (c + 3) = .inl (0, 8, .inl mo) := by rw [e_ks1, zup_ne _ _ (by omega)]; exact d3
    have kh12 : ks1.1 (c + 4) = .inl (2, 8, .inl to) := by rw [e_ks1, zup_ne _ _ (by omega)]; exact d4
    have kh13 : ks1.1 (c + 5) = .inl (2, 8, .inl ao) := by rw [e_ks1, zup_ne _ _ (by omega)]; exact d5
    have kF14 := zFr.put hF e_ks1 (by unfold zIn; omega)
    have kF15 := zFr.put zFr.rf (P := fun q => q = b) e_ks1 (by first | omega | simp)
    refine zr_aload_n dX3_copyFrom_85 rfl ?_
    refine zr_aload_n dX3_copyFrom_86 rfl ?_
    refine zr_getfield dX3_copyFrom_87 fX3_35 kh8 rfl (by decide) ?_
    refine zr_putfield (fs' := [.ref ((b + 1)), .ref ((b + 2)), .ref ((b + 3)), .ref ((b + 4)), .ref ((b + 5)), .int (nI (kC O)), .int (nI (kP O))]) dX3_copyFrom_90 pX3_35 kh2 (by decide) (rfl) (rfl) (Nat.le_of_ble_eq_true rfl) rfl ?_
    refine zr_sig (fun ks16 e_ks16 => ?_)
    have kh17 : ks16.1 b = .inr (1, [.ref ((b + 1)), .ref ((b + 2)), .ref ((b + 3)), .ref ((b + 4)), .ref ((b + 5)), .int (nI (kC O)), .int (nI (kP O))]) := by rw [e_ks16]; exact zup_at _ _ _
    have kh18 : ks16.1 (b + 1) = .inl (6, 8, .inr (.inr (.inr (.inr wr)))) := by rw [e_ks16, zup_ne _ _ (by omega)]; exact kh3
    have kh19 : ks16.1 (b + 2) = .inl (0, 8, .inl r) := by rw [e_ks16, zup_ne _ _ (by omega)]; exact kh4
    have kh20 : ks16.1 (b + 3) = .inl (0, 8, .inl m) := by rw [e_ks16, zup_ne _ _ (by omega)]; exact kh5
    have kh21 : ks16.1 (b + 4) = .inl (2, 8, .inl t) := by rw [e_ks16, zup_ne _ _ (by omega)]; exact kh6
    have kh22 : ks16.1 (b + 5) = .inl (2, 8, .inl a) := by rw [e_ks16, zup_ne _ _ (by omega)]; exact kh7
    have kh23 : ks16.1 c = .inr (1, [.ref ((c + 1)), .ref ((c + 2)), .ref ((c + 3)), .ref ((c + 4)), .ref ((c + 5)), .int (nI (kC O)), .int (nI (kP O))]) := by rw [e_ks16, zup_ne _ _ (by omega)]; exact kh8
    have kh24 : ks16.1 (c + 1) = .inl (6, 8, .inr (.inr (.inr (.inr wro)))) := by rw [e_ks16, zup_ne _ _ (by omega)]; exact kh9
    have kh25 : ks16.1 (c + 2) = .inl (0, 8, .inl ro) := by rw [e_ks16, zup_ne _ _ (by omega)]; exact kh10
    have kh26 : ks16.1 (c + 3) = .inl (0, 8, .inl mo) := by rw [e_ks16, zup_ne _ _ (by omega)]; exact kh11
    have kh27 : ks16.1 (c + 4) = .inl (2, 8, .inl to) := by rw [e_ks16, zup_ne _ _ (by omega)]; exact kh12
    have kh28 : ks16.1 (c + 5) = .inl (2, 8, .inl ao) := by rw [e_ks16, zup_ne _ _ (by omega)]; exact kh13
    have kF29 := zFr.put kF14 e_ks16 (by unfold zIn; omega)
    have kF30 := zFr.put kF15 e_ks16 (by first | omega | simp)
    refine zr_return dX3_copyFrom_93 rfl ?_
    refine ⟨rfl, kF29, wr, r, m, t, a, f, kh17, kh18, kh19, kh20, kh21, kh22, fun k hk => ?_⟩
    obtain ⟨g1, g2, g3, g4⟩ := cw k hk
    obtain ⟨g5, g6, g7⟩ := g4 (by omega)
    rw [g6] at g2
    exact ⟨g1, g5, zFr.get kF30 (by omega) g2, zFr.get kF30 (by omega) g3, g7⟩
  | succ j ih =>
    intro i s hi hF hc
    obtain ⟨wro, ro, mo, to, ao, fo, d0, d1, d2, d3, d4, d5, dw⟩ := zDA.fr ho hF (by intro q h1 h2 h3; unfold zIn at h3; omega)
    obtain ⟨wr, r, m, t, a, f, v, c0, c1, c2, c3, c4, c5, cw⟩ := hc
    refine zr_iload_n dX3_copyFrom_2 rfl ?_
    refine zr_bipush (v := 8) dX3_copyFrom_3 (by decide) ?_
    refine zr_icmp_ge (tgt := 77) dX3_copyFrom_5 (by decide) (fun c_5 => absurd c_5 (fun h => absurd ((nI_leI (a := 8) (b := i) (by omega) (by omega)).mp h) (by omega))) (fun c_5 => ?_)
    obtain ⟨w_, w0, w1, w2⟩ := cw i (by omega)
    obtain ⟨x_, xr, x0, x1, x2⟩ := dw i (by omega)
    refine zr_aload_n dX3_copyFrom_8 rfl ?_
    refine zr_getfield dX3_copyFrom_9 fX3_11 c0 rfl (by decide) ?_
    refine zr_iload_n dX3_copyFrom_12 rfl ?_
    refine zr_aaload6 (b := (b + 6 + 2 * i)) dX3_copyFrom_13 c1 (vp_in_nI (n := i) (by omega) (by omega)) (by rw [nI_clamp (by omega)]; exact w_) ?_
    refine zr_aload_n dX3_copyFrom_14 rfl ?_
    refine zr_getfield dX3_copyFrom_15 fX3_11 d0 rfl (by decide) ?_
    refine zr_iload_n dX3_copyFrom_18 rfl ?_
    refine zr_aaload6 (b := (c + 6 + 2 * i)) dX3_copyFrom_19 d1 (vp_in_nI (n := i) (by omega) (by omega)) (by rw [nI_clamp (by omega)]; exact x_) ?_
    refine zr_callVv [] dX3_copyFrom_20 vX3_53 (qX8_copyFrom hX w0 w1 x0 x1 (by omega) (by omega) (by omega) (hO.2.2 i (by omega)).1) w0 (by decide) (by decide) (by decide) rfl rfl (Nat.le_of_ble_eq_true rfl) (by decide) rfl (fun s_kr1 h_kr1 => ?_)
    obtain ⟨F_kr1, g0_kr1, g1_kr1⟩ := h_kr1
    have kh2 : s_kr1.1 b = .inr (1, [.ref ((b + 1)), .ref ((b + 2)), .ref ((b + 3)), .ref ((b + 4)), .ref ((b + 5)), v5, v6]) := zFr.get F_kr1 (by omega) c0
    have kh3 : s_kr1.1 (b + 1) = .inl (6, 8, .inr (.inr (.inr (.inr wr)))) := zFr.get F_kr1 (by omega) c1
    have kh4 : s_kr1.1 (b + 2) = .inl (0, 8, .inl r) := zFr.get F_kr1 (by omega) c2
    have kh5 : s_kr1.1 (b + 3) = .inl (0, 8, .inl m) := zFr.get F_kr1 (by omega) c3
    have kh6 : s_kr1.1 (b + 4) = .inl (2, 8, .inl t) := zFr.get F_kr1 (by omega) c4
    have kh7 : s_kr1.1 (b + 5) = .inl (2, 8, .inl a) := zFr.get F_kr1 (by omega) c5
    have kh8 : s_kr1.1 c = .inr (1, [.ref ((c + 1)), .ref ((c + 2)), .ref ((c + 3)), .ref ((c + 4)), .ref ((c + 5)), .int (nI (kC O)), .int (nI (kP O))]) := zFr.get F_kr1 (by omega) d0
    have kh9 : s_kr1.1 (c + 1) = .inl (6, 8, .inr (.inr (.inr (.inr wro)))) := zFr.get F_kr1 (by omega) d1
    have kh10 : s_kr1.1 (c + 2) = .inl (0, 8, .inl ro) := zFr.get F_kr1 (by omega) d2
    have kh11 : s_kr1.1 (c + 3) = .inl (0, 8, .inl mo) := zFr.get F_kr1 (by omega) d3
    have kh12 : s_kr1.1 (c + 4) = .inl (2, 8, .inl to) := zFr.get F_kr1 (by omega) d4
    have kh13 : s_kr1.1 (c + 5) = .inl (2, 8, .inl ao) := zFr.get F_kr1 (by omega) d5
    have kh14 : s_kr1.1 (c + 6 + 2 * i) = .inr (6, [.ref ((c + 6 + 2 * i + 1)), .int (nI (kN O i))]) := zFr.get F_kr1 (by omega) x0
    have kh15 : s_kr1.1 (c + 6 + 2 * i + 1) = .inl (0, 16, .inl (fo i)) := zFr.get F_kr1 (by omega) x1
    have kF16 := zFr.tr hF F_kr1 (by intro q hq; unfold zIn; omega)
    have kF17 := zFr.tr zFr.rf (P := fun q => q = b + 2 ∨ q = b + 3 ∨ q = b + 4 ∨ q = b + 5 ∨ q = b + 6 + 2 * i ∨ q = b + 6 + 2 * i + 1) F_kr1 (by intro q hq; omega)
    refine zr_aload_n dX3_copyFrom_23 rfl ?_
    refine zr_getfield dX3_copyFrom_24 fX3_17 kh2 rfl (by decide) ?_
    refine zr_iload_n dX3_copyFrom_27 rfl ?_
    refine zr_aload_n dX3_copyFrom_28 rfl ?_
    refine zr_getfield dX3_copyFrom_29 fX3_17 kh8 rfl (by decide) ?_
    refine zr_iload_n dX3_copyFrom_32 rfl ?_
    refine zr_iaload dX3_copyFrom_33 kh10 (vp_in_nI (n := i) (by omega) (by omega)) ?_
    rw [nI_clamp (n := i) (by omega)]
    refine zr_iastore dX3_copyFrom_34 kh4 (vp_in_nI (n := i) (by omega) (by omega)) ?_
    rw [nI_clamp (n := i) (by omega)]
    refine zr_sig (fun ks18 e_ks18 => ?_)
    have kh19 : ks18.1 b = .inr (1, [.ref ((b + 1)), .ref ((b + 2)), .ref ((b + 3)), .ref ((b + 4)), .ref ((b + 5)), v5, v6]) := by rw [e_ks18, zup_ne _ _ (by omega)]; exact kh2
    have kh20 : ks18.1 (b + 1) = .inl (6, 8, .inr (.inr (.inr (.inr wr)))) := by rw [e_ks18, zup_ne _ _ (by omega)]; exact kh3
    have kh21 : ks18.1 (b + 2) = .inl (0, 8, .inl (upd r i (ro i))) := by rw [e_ks18]; exact zup_at _ _ _
    have kh22 : ks18.1 (b + 3) = .inl (0, 8, .inl m) := by rw [e_ks18, zup_ne _ _ (by omega)]; exact kh5
    have kh23 : ks18.1 (b + 4) = .inl (2, 8, .inl t) := by rw [e_ks18, zup_ne _ _ (by omega)]; exact kh6
    have kh24 : ks18.1 (b + 5) = .inl (2, 8, .inl a) := by rw [e_ks18, zup_ne _ _ (by omega)]; exact kh7
    have kh25 : ks18.1 c = .inr (1, [.ref ((c + 1)), .ref ((c + 2)), .ref ((c + 3)), .ref ((c + 4)), .ref ((c + 5)), .int (nI (kC O)), .int (nI (kP O))]) := by rw [e_ks18, zup_ne _ _ (by omega)]; exact kh8
    have kh26 : ks18.1 (c + 1) = .inl (6, 8, .inr (.inr (.inr (.inr wro)))) := by rw [e_ks18, zup_ne _ _ (by omega)]; exact kh9
    have kh27 : ks18.1 (c + 2) = .inl (0, 8, .inl ro) := by rw [e_ks18, zup_ne _ _ (by omega)]; exact kh10
    have kh28 : ks18.1 (c + 3) = .inl (0, 8, .inl mo) := by rw [e_ks18, zup_ne _ _ (by omega)]; exact kh11
    have kh29 : ks18.1 (c + 4) = .inl (2, 8, .inl to) := by rw [e_ks18, zup_ne _ _ (by omega)]; exact kh12
    have kh30 : ks18.1 (c + 5) = .inl (2, 8, .inl ao) := by rw [e_ks18, zup_ne _ _ (by omega)]; exact kh13
    have kh31 : ks18.1 (b + 6 + 2 * i) = .inr (6, [.ref ((b + 6 + 2 * i + 1)), .int (nI (kN O i))]) := by rw [e_ks18, zup_ne _ _ (by omega)]; exact g0_kr1
    have kh32 : ks18.1 (b + 6 + 2 * i + 1) = .inl (0, 16, .inl (zcpy (f i) (fo i) (kN O i))) := by rw [e_ks18, zup_ne _ _ (by omega)]; exact g1_kr1
    have kh33 : ks18.1 (c + 6 + 2 * i) = .inr (6, [.ref ((c + 6 + 2 * i + 1)), .int (nI (kN O i))]) := by rw [e_ks18, zup_ne _ _ (by omega)]; exact kh14
    have kh34 : ks18.1 (c + 6 + 2 * i + 1) = .inl (0, 16, .inl (fo i)) := by rw [e_ks18, zup_ne _ _ (by omega)]; exact kh15
    have kF35 := zFr.put kF16 e_ks18 (by unfold zIn; omega)
    have kF36 := zFr.put kF17 e_ks18 (by first | omega | simp)
    refine zr_aload_n dX3_copyFrom_35 rfl ?_
    refine zr_getfield dX3_copyFrom_36 fX3_21 kh19 rfl (by decide) ?_
    refine zr_iload_n dX3_copyFrom_39 rfl ?_
    refine zr_aload_n dX3_copyFrom_40 rfl ?_
    refine zr_getfield dX3_copyFrom_41 fX3_21 kh25 rfl (by decide) ?_
    refine zr_iload_n dX3_copyFrom_44 rfl ?_
    refine zr_iaload dX3_copyFrom_45 kh28 (vp_in_nI (n := i) (by omega) (by omega)) ?_
    rw [nI_clamp (n := i) (by omega)]
    refine zr_iastore dX3_copyFrom_46 kh22 (vp_in_nI (n := i) (by omega) (by omega)) ?_
    rw [nI_clamp (n := i) (by omega)]
    refine zr_sig (fun ks37 e_ks37 => ?_)
    have kh38 : ks37.1 b = .inr (1, [.ref ((b + 1)), .ref ((b + 2)), .ref ((b + 3)), .ref ((b + 4)), .ref ((b + 5)), v5, v6]) := by rw [e_ks37, zup_ne _ _ (by omega)]; exact kh19
    have kh39 : ks37.1 (b + 1) = .inl (6, 8, .inr (.inr (.inr (.inr wr)))) := by rw [e_ks37, zup_ne _ _ (by omega)]; exact kh20
    have kh40 : ks37.1 (b + 2) = .inl (0, 8, .inl (upd r i (ro i))) := by rw [e_ks37, zup_ne _ _ (by omega)]; exact kh21
    have kh41 : ks37.1 (b + 3) = .inl (0, 8, .inl (upd m i (mo i))) := by rw [e_ks37]; exact zup_at _ _ _
    have kh42 : ks37.1 (b + 4) = .inl (2, 8, .inl t) := by rw [e_ks37, zup_ne _ _ (by omega)]; exact kh23
    have kh43 : ks37.1 (b + 5) = .inl (2, 8, .inl a) := by rw [e_ks37, zup_ne _ _ (by omega)]; exact kh24
    have kh44 : ks37.1 c = .inr (1, [.ref ((c + 1)), .ref ((c + 2)), .ref ((c + 3)), .ref ((c + 4)), .ref ((c + 5)), .int (nI (kC O)), .int (nI (kP O))]) := by rw [e_ks37, zup_ne _ _ (by omega)]; exact kh25
    have kh45 : ks37.1 (c + 1) = .inl (6, 8, .inr (.inr (.inr (.inr wro)))) := by rw [e_ks37, zup_ne _ _ (by omega)]; exact kh26
    have kh46 : ks37.1 (c + 2) = .inl (0, 8, .inl ro) := by rw [e_ks37, zup_ne _ _ (by omega)]; exact kh27
    have kh47 : ks37.1 (c + 3) = .inl (0, 8, .inl mo) := by rw [e_ks37, zup_ne _ _ (by omega)]; exact kh28
    have kh48 : ks37.1 (c + 4) = .inl (2, 8, .inl to) := by rw [e_ks37, zup_ne _ _ (by omega)]; exact kh29
    have kh49 : ks37.1 (c + 5) = .inl (2, 8, .inl ao) := by rw [e_ks37, zup_ne _ _ (by omega)]; exact kh30
    have kh50 : ks37.1 (b + 6 + 2 * i) = .inr (6, [.ref ((b + 6 + 2 * i + 1)), .int (nI (kN O i))]) := by rw [e_ks37, zup_ne _ _ (by omega)]; exact kh31
    have kh51 : ks37.1 (b + 6 + 2 * i + 1) = .inl (0, 16, .inl (zcpy (f i) (fo i) (kN O i))) := by rw [e_ks37, zup_ne _ _ (by omega)]; exact kh32
    have kh52 : ks37.1 (c + 6 + 2 * i) = .inr (6, [.ref ((c + 6 + 2 * i + 1)), .int (nI (kN O i))]) := by rw [e_ks37, zup_ne _ _ (by omega)]; exact kh33
    have kh53 : ks37.1 (c + 6 + 2 * i + 1) = .inl (0, 16, .inl (fo i)) := by rw [e_ks37, zup_ne _ _ (by omega)]; exact kh34
    have kF54 := zFr.put kF35 e_ks37 (by unfold zIn; omega)
    have kF55 := zFr.put kF36 e_ks37 (by first | omega | simp)
    refine zr_aload_n dX3_copyFrom_47 rfl ?_
    refine zr_getfield dX3_copyFrom_48 fX3_24 kh38 rfl (by decide) ?_
    refine zr_iload_n dX3_copyFrom_51 rfl ?_
    refine zr_aload_n dX3_copyFrom_52 rfl ?_
    refine zr_getfield dX3_copyFrom_53 fX3_24 kh44 rfl (by decide) ?_
    refine zr_iload_n dX3_copyFrom_56 rfl ?_
    refine zr_baload dX3_copyFrom_57 kh48 (vp_in_nI (n := i) (by omega) (by omega)) ?_
    rw [nI_clamp (n := i) (by omega)]
    refine zr_bastore dX3_copyFrom_58 kh42 (vp_in_nI (n := i) (by omega) (by omega)) (nar01 (by rw [xr.2.2.1]; exact (hO.2.2 i (by omega)).2.2.2.1)) ?_
    rw [nI_clamp (n := i) (by omega)]
    refine zr_sig (fun ks56 e_ks56 => ?_)
    have kh57 : ks56.1 b = .inr (1, [.ref ((b + 1)), .ref ((b + 2)), .ref ((b + 3)), .ref ((b + 4)), .ref ((b + 5)), v5, v6]) := by rw [e_ks56, zup_ne _ _ (by omega)]; exact kh38
    have kh58 : ks56.1 (b + 1) = .inl (6, 8, .inr (.inr (.inr (.inr wr)))) := by rw [e_ks56, zup_ne _ _ (by omega)]; exact kh39
    have kh59 : ks56.1 (b + 2) = .inl (0, 8, .inl (upd r i (ro i))) := by rw [e_ks56, zup_ne _ _ (by omega)]; exact kh40
    have kh60 : ks56.1 (b + 3) = .inl (0, 8, .inl (upd m i (mo i))) := by rw [e_ks56, zup_ne _ _ (by omega)]; exact kh41
    have kh61 : ks56.1 (b + 4) = .inl (2, 8, .inl (upd t i (to i))) := by rw [e_ks56]; exact zup_at _ _ _
    have kh62 : ks56.1 (b + 5) = .inl (2, 8, .inl a) := by rw [e_ks56, zup_ne _ _ (by omega)]; exact kh43
    have kh63 : ks56.1 c = .inr (1, [.ref ((c + 1)), .ref ((c + 2)), .ref ((c + 3)), .ref ((c + 4)), .ref ((c + 5)), .int (nI (kC O)), .int (nI (kP O))]) := by rw [e_ks56, zup_ne _ _ (by omega)]; exact kh44
    have kh64 : ks56.1 (c + 1) = .inl (6, 8, .inr (.inr (.inr (.inr wro)))) := by rw [e_ks56, zup_ne _ _ (by omega)]; exact kh45
    have kh65 : ks56.1 (c + 2) = .inl (0, 8, .inl ro) := by rw [e_ks56, zup_ne _ _ (by omega)]; exact kh46
    have kh66 : ks56.1 (c + 3) = .inl (0, 8, .inl mo) := by rw [e_ks56, zup_ne _ _ (by omega)]; exact kh47
    have kh67 : ks56.1 (c + 4) = .inl (2, 8, .inl to) := by rw [e_ks56, zup_ne _ _ (by omega)]; exact kh48
    have kh68 : ks56.1 (c + 5) = .inl (2, 8, .inl ao) := by rw [e_ks56, zup_ne _ _ (by omega)]; exact kh49
    have kh69 : ks56.1 (b + 6 + 2 * i) = .inr (6, [.ref ((b + 6 + 2 * i + 1)), .int (nI (kN O i))]) := by rw [e_ks56, zup_ne _ _ (by omega)]; exact kh50
    have kh70 : ks56.1 (b + 6 + 2 * i + 1) = .inl (0, 16, .inl (zcpy (f i) (fo i) (kN O i))) := by rw [e_ks56, zup_ne _ _ (by omega)]; exact kh51
    have kh71 : ks56.1 (c + 6 + 2 * i) = .inr (6, [.ref ((c + 6 + 2 * i + 1)), .int (nI (kN O i))]) := by rw [e_ks56, zup_ne _ _ (by omega)]; exact kh52
    have kh72 : ks56.1 (c + 6 + 2 * i + 1) = .inl (0, 16, .inl (fo i)) := by rw [e_ks56, zup_ne _ _ (by omega)]; exact kh53
    have kF73 := zFr.put kF54 e_ks56 (by unfold zIn; omega)
    have kF74 := zFr.put kF55 e_ks56 (by first | omega | simp)
    refine zr_aload_n dX3_copyFrom_59 rfl ?_
    refine zr_getfield dX3_copyFrom_60 fX3_28 kh57 rfl (by decide) ?_
    refine zr_iload_n dX3_copyFrom_63 rfl ?_
    refine zr_aload_n dX3_copyFrom_64 rfl ?_
    refine zr_getfield dX3_copyFrom_65 fX3_28 kh63 rfl (by decide) ?_
    refine zr_iload_n dX3_copyFrom_68 rfl ?_
    refine zr_baload dX3_copyFrom_69 kh68 (vp_in_nI (n := i) (by omega) (by omega)) ?_
    rw [nI_clamp (n := i) (by omega)]
    refine zr_bastore dX3_copyFrom_70 kh62 (vp_in_nI (n := i) (by omega) (by omega)) (nar01 (by rw [xr.2.2.2]; exact (hO.2.2 i (by omega)).2.2.2.2.1)) ?_
    rw [nI_clamp (n := i) (by omega)]
    refine zr_sig (fun ks75 e_ks75 => ?_)
    have kh76 : ks75.1 b = .inr (1, [.ref ((b + 1)), .ref ((b + 2)), .ref ((b + 3)), .ref ((b + 4)), .ref ((b + 5)), v5, v6]) := by rw [e_ks75, zup_ne _ _ (by omega)]; exact kh57
    have kh77 : ks75.1 (b + 1) = .inl (6, 8, .inr (.inr (.inr (.inr wr)))) := by rw [e_ks75, zup_ne _ _ (by omega)]; exact kh58
    have kh78 : ks75.1 (b + 2) = .inl (0, 8, .inl (upd r i (ro i))) := by rw [e_ks75, zup_ne _ _ (by omega)]; exact kh59
    have kh79 : ks75.1 (b + 3) = .inl (0, 8, .inl (upd m i (mo i))) := by rw [e_ks75, zup_ne _ _ (by omega)]; exact kh60
    have kh80 : ks75.1 (b + 4) = .inl (2, 8, .inl (upd t i (to i))) := by rw [e_ks75, zup_ne _ _ (by omega)]; exact kh61
    have kh81 : ks75.1 (b + 5) = .inl (2, 8, .inl (upd a i (ao i))) := by rw [e_ks75]; exact zup_at _ _ _
    have kh82 : ks75.1 c = .inr (1, [.ref ((c + 1)), .ref ((c + 2)), .ref ((c + 3)), .ref ((c + 4)), .ref ((c + 5)), .int (nI (kC O)), .int (nI (kP O))]) := by rw [e_ks75, zup_ne _ _ (by omega)]; exact kh63
    have kh83 : ks75.1 (c + 1) = .inl (6, 8, .inr (.inr (.inr (.inr wro)))) := by rw [e_ks75, zup_ne _ _ (by omega)]; exact kh64
    have kh84 : ks75.1 (c + 2) = .inl (0, 8, .inl ro) := by rw [e_ks75, zup_ne _ _ (by omega)]; exact kh65
    have kh85 : ks75.1 (c + 3) = .inl (0, 8, .inl mo) := by rw [e_ks75, zup_ne _ _ (by omega)]; exact kh66
    have kh86 : ks75.1 (c + 4) = .inl (2, 8, .inl to) := by rw [e_ks75, zup_ne _ _ (by omega)]; exact kh67
    have kh87 : ks75.1 (c + 5) = .inl (2, 8, .inl ao) := by rw [e_ks75, zup_ne _ _ (by omega)]; exact kh68
    have kh88 : ks75.1 (b + 6 + 2 * i) = .inr (6, [.ref ((b + 6 + 2 * i + 1)), .int (nI (kN O i))]) := by rw [e_ks75, zup_ne _ _ (by omega)]; exact kh69
    have kh89 : ks75.1 (b + 6 + 2 * i + 1) = .inl (0, 16, .inl (zcpy (f i) (fo i) (kN O i))) := by rw [e_ks75, zup_ne _ _ (by omega)]; exact kh70
    have kh90 : ks75.1 (c + 6 + 2 * i) = .inr (6, [.ref ((c + 6 + 2 * i + 1)), .int (nI (kN O i))]) := by rw [e_ks75, zup_ne _ _ (by omega)]; exact kh71
    have kh91 : ks75.1 (c + 6 + 2 * i + 1) = .inl (0, 16, .inl (fo i)) := by rw [e_ks75, zup_ne _ _ (by omega)]; exact kh72
    have kF92 := zFr.put kF73 e_ks75 (by unfold zIn; omega)
    have kF93 := zFr.put kF74 e_ks75 (by first | omega | simp)
    refine zr_iinc (v := nI (i + 1)) (ls' := [some (.ref b), some (.ref c), some (.int (nI (i + 1)))]) dX3_copyFrom_71 rfl (nI_1 _) (by decide) rfl ?_
    refine zr_goto (tgt := 2) dX3_copyFrom_74 (by decide) ?_
    exact ih (i + 1) _ (by omega) (kF92) (by refine ⟨wr, upd r i (ro i), upd m i (mo i), upd t i (to i), upd a i (ao i), zuL f i (zcpy (f i) (fo i) (kN O i)), fun k => if k = i then .int (nI (kN O i)) else v k, kh76, kh77, kh78, kh79, kh80, kh81, fun k hk => ?_⟩; exact zCp_step hk (cw k hk) w_ xr x2 kh88 kh89 (fun e => zFr.get kF93 (by omega) (cw k hk).2.1) (fun e => zFr.get kF93 (by omega) (cw k hk).2.2.1))

theorem qX3_copyFrom {X : zX} (hX : X.1.stackTraces = false) {σ : zS} {b c : Nat} {A O : zDk} (h : zDA b A σ) (ho : zDA c O σ) (hO : zDw O) (hbc : b + 22 ≤ c ∨ c + 22 ≤ b) : zMet X mX3_copyFrom yX3_copyFrom 3 0 0 [.ref b, .ref c] σ (zV (fun s => zFr σ s (zIn b) ∧ zDA b O s)) := by
  refine zMet_of (ls := [some (.ref b), some (.ref c), none]) rfl (by decide +kernel) rfl (fun h => by cases h) hX (Nat.le_of_ble_eq_true rfl) rfl ?_
  refine zr_iconst (v := 0) dX3_copyFrom_0 (by decide) ?_
  refine zr_istore_n (ls' := [some (.ref b), some (.ref c), some (.int 0)]) dX3_copyFrom_1 rfl (by decide) rfl ?_
  refine l_cf (v5 := .int (nI (kC A))) (v6 := .int (nI (kP A))) hX ho hO hbc 8 0 _ (by omega) zFr.rf ?_
  obtain ⟨wr, r, m, t, a, f, c0, c1, c2, c3, c4, c5, cw⟩ := h
  exact ⟨wr, r, m, t, a, f, fun k => .int (nI (kN A k)), c0, c1, c2, c3, c4, c5, fun k hk => ⟨(cw k hk).1, (cw k hk).2.2.1, (cw k hk).2.2.2.1, fun q => absurd q (Nat.not_lt_zero k)⟩⟩

