/-- the text buffer between the calls: n characters T -/
def zSk (y n : Nat) (T : Nat → Int32) (σ : zS) : Prop := ∃ (f nf lf : Nat → Int32) (cf : Nat → Option Nat) (vc va : Value), n ≤ 60 ∧ σ.1 y = .inr (5, [.ref (y + 1), .int (nI n), .ref (y + 2), .ref (y + 3), .ref (y + 4), vc, va]) ∧ σ.1 (y + 1) = .inl (1, 60, .inl f) ∧ σ.1 (y + 2) = .inl (7, 12, .inr (.inr (.inr (.inr cf)))) ∧ σ.1 (y + 3) = .inl (0, 12, .inl nf) ∧ σ.1 (y + 4) = .inl (0, 12, .inl lf) ∧ ∀ k, k < n → f k = T k
theorem zSk.fr {y n : Nat} {T : Nat → Int32} {σ s : zS} {P : Nat → Prop} (h : zSk y n T σ) (F : zFr σ s P) (hp : ∀ q, y ≤ q → q < y + 5 → ¬ P q) : zSk y n T s := by
  obtain ⟨f, nf, lf, cf, vc, va, h0, h1, h2, h3, h4, h5, h6⟩ := h
  exact ⟨f, nf, lf, cf, vc, va, h0, F.get (hp _ (by omega) (by omega)) h1, F.get (hp _ (by omega) (by omega)) h2, F.get (hp _ (by omega) (by omega)) h3, F.get (hp _ (by omega) (by omega)) h4, F.get (hp _ (by omega) (by omega)) h5, h6⟩
theorem zSk.obj {y n : Nat} {T : Nat → Int32} {σ : zS} (h : zSk y n T σ) : ∃ fs, σ.1 y = .inr (5, fs) := by
  obtain ⟨f, nf, lf, cf, vc, va, h0, h1, -⟩ := h
  exact ⟨_, h1⟩
set_option maxHeartbeats 400000 in
set_option maxRecDepth 100000 in
theorem qX7_isFull {X : zX} (hX : X.1.stackTraces = false) {σ : zS} {y n : Nat} {T : Nat → Int32} (h : zSk y n T σ) : zMet X mX7_isFull yX7_isFull 0 0 0 [.ref y] σ (zI (fun y_ s_ => y_ = (if n < 60 then 0 else 1) ∧ s_ = σ)) := by
  refine zMet_of (ls := [some (.ref y)]) rfl (by decide +kernel) rfl (fun h => by cases h) hX (Nat.le_of_ble_eq_true rfl) rfl ?_
  obtain ⟨f, nf, lf, cf, vc, va, k0, k1, k2, k3, k4, k5, k6⟩ := id h
  refine zr_aload_n dX7_isFull_0 rfl ?_
  refine zr_getfield dX7_isFull_1 fX7_15 k1 rfl (by decide) ?_
  refine zr_bipush (v := 60) dX7_isFull_4 (by decide) ?_
  refine zr_icmp_lt (tgt := 13) dX7_isFull_6 (by decide) (fun c_6 => ?_) (fun c_6 => ?_)
  · refine zr_iconst (v := 0) dX7_isFull_13 (by decide) ?_
    exact zr_ireturn dX7_isFull_14 rfl (rfl) (⟨_, rfl, by rw [show (60 : Int32) = nI 60 from rfl, nI_ltI (by omega) (by omega)] at c_6; simp [c_6], rfl⟩)
  · refine zr_iconst (v := 1) dX7_isFull_9 (by decide) ?_
    refine zr_goto (tgt := 14) dX7_isFull_10 (by decide) ?_
    exact zr_ireturn dX7_isFull_14 rfl (rfl) (⟨_, rfl, by rw [show (60 : Int32) = nI 60 from rfl, nI_ltI (by omega) (by omega)] at c_6; simp [c_6], rfl⟩)

set_option maxHeartbeats 400000 in
set_option maxRecDepth 100000 in
theorem qX7_write {X : zX} (hX : X.1.stackTraces = false) {σ : zS} {y n : Nat} {T : Nat → Int32} {c : Int32} (h : zSk y n T σ) (hn : n < 60) (hc : vp_nar .char c = c) : zMet X mX7_write yX7_write 0 0 0 [.ref y, .int c] σ (zI (fun y_ s => y_ = nI (n + 1) ∧ zFr σ s (fun q => y ≤ q ∧ q < y + 5) ∧ zSk y (n + 1) (upd T n c) s)) := by
  refine zMet_of (ls := [some (.ref y), some (.int c)]) rfl (by decide +kernel) rfl (fun h => by cases h) hX (Nat.le_of_ble_eq_true rfl) rfl ?_
  obtain ⟨f, nf, lf, cf, vc, va, k0, k1, k2, k3, k4, k5, k6⟩ := id h
  refine zr_aload_n dX7_write_0 rfl ?_
  refine zr_getfield dX7_write_1 fX7_15 k1 rfl (by decide) ?_
  refine zr_bipush (v := 60) dX7_write_4 (by decide) ?_
  refine zr_icmp_ge (tgt := 29) dX7_write_6 (by decide) (fun c_6 => absurd c_6 (fun h => absurd ((nI_leI (a := 60) (b := n) (by omega) (by omega)).mp h) (by omega))) (fun c_6 => ?_)
  refine zr_aload_n dX7_write_9 rfl ?_
  refine zr_getfield dX7_write_10 fX7_9 k1 rfl (by decide) ?_
  refine zr_aload_n dX7_write_13 rfl ?_
  refine zr_getfield dX7_write_14 fX7_15 k1 rfl (by decide) ?_
  refine zr_iload_n dX7_write_17 rfl ?_
  refine zr_castore dX7_write_18 k2 (vp_in_nI (n := n) (by omega) (by omega)) (hc) ?_
  rw [nI_clamp (n := n) (by omega)]
  refine zr_sig (fun ks1 e_ks1 => ?_)
  have kh2 : ks1.1 y = .inr (5, [.ref ((y + 1)), .int (nI n), .ref ((y + 2)), .ref ((y + 3)), .ref ((y + 4)), vc, va]) := by rw [e_ks1, zup_ne _ _ (by omega)]; exact k1
  have kh3 : ks1.1 (y + 1) = .inl (1, 60, .inl (upd f n c)) := by rw [e_ks1]; exact zup_at _ _ _
  have kh4 : ks1.1 (y + 2) = .inl (7, 12, .inr (.inr (.inr (.inr cf)))) := by rw [e_ks1, zup_ne _ _ (by omega)]; exact k3
  have kh5 : ks1.1 (y + 3) = .inl (0, 12, .inl nf) := by rw [e_ks1, zup_ne _ _ (by omega)]; exact k4
  have kh6 : ks1.1 (y + 4) = .inl (0, 12, .inl lf) := by rw [e_ks1, zup_ne _ _ (by omega)]; exact k5
  have kF7 := zFr.put zFr.rf (P := (fun q => y ≤ q ∧ q < y + 5)) e_ks1 (by omega)
  refine zr_aload_n dX7_write_19 rfl ?_
  refine zr_dup dX7_write_20 rfl ?_
  refine zr_getfield dX7_write_21 fX7_15 kh2 rfl (by decide) ?_
  refine zr_iconst (v := 1) dX7_write_24 (by decide) ?_
  refine zr_iadd dX7_write_25 ?_
  refine zr_eqi (x' := nI (n + 1)) (nI_add n 1) ?_
  refine zr_putfield (fs' := [.ref ((y + 1)), .int (nI (n + 1)), .ref ((y + 2)), .ref ((y + 3)), .ref ((y + 4)), vc, va]) dX7_write_26 pX7_15 kh2 (by decide) (rfl) (rfl) (Nat.le_of_ble_eq_true rfl) rfl ?_
  refine zr_sig (fun ks8 e_ks8 => ?_)
  have kh9 : ks8.1 y = .inr (5, [.ref ((y + 1)), .int (nI (n + 1)), .ref ((y + 2)), .ref ((y + 3)), .ref ((y + 4)), vc, va]) := by rw [e_ks8]; exact zup_at _ _ _
  have kh10 : ks8.1 (y + 1) = .inl (1, 60, .inl (upd f n c)) := by rw [e_ks8, zup_ne _ _ (by omega)]; exact kh3
  have kh11 : ks8.1 (y + 2) = .inl (7, 12, .inr (.inr (.inr (.inr cf)))) := by rw [e_ks8, zup_ne _ _ (by omega)]; exact kh4
  have kh12 : ks8.1 (y + 3) = .inl (0, 12, .inl nf) := by rw [e_ks8, zup_ne _ _ (by omega)]; exact kh5
  have kh13 : ks8.1 (y + 4) = .inl (0, 12, .inl lf) := by rw [e_ks8, zup_ne _ _ (by omega)]; exact kh6
  have kF14 := zFr.put kF7 e_ks8 (by omega)
  refine zr_aload_n dX7_write_29 rfl ?_
  refine zr_getfield dX7_write_30 fX7_15 kh9 rfl (by decide) ?_
  exact zr_ireturn dX7_write_33 rfl (rfl) (⟨_, rfl, rfl, kF14, upd f n c, nf, lf, cf, vc, va, by omega, kh9, kh10, kh11, kh12, kh13, fun k hk => by simp only [upd]; split; rfl; exact k6 k (by omega)⟩)

set_option maxHeartbeats 400000 in
set_option maxRecDepth 100000 in
theorem qX7_empty {X : zX} (hX : X.1.stackTraces = false) {σ : zS} {y : Nat} {v1 : Value} {v5 v6 vl : Value} (h : σ.1 y = .inr (5, [v1, vl, .ref (y + 2), .ref (y + 3), .ref (y + 4), v5, v6])) : zMet X mX7_empty yX7_empty 0 0 0 [.ref y] σ (zV (fun s => zFr σ s (fun q => q = y) ∧ s.1 y = .inr (5, [v1, .int 0, .ref (y + 2), .ref (y + 3), .ref (y + 4), v5, v6]))) := by
  refine zMet_of (ls := [some (.ref y)]) rfl (by decide +kernel) rfl (fun h => by cases h) hX (Nat.le_of_ble_eq_true rfl) rfl ?_
  refine zr_aload_n dX7_empty_0 rfl ?_
  refine zr_iconst (v := 0) dX7_empty_1 (by decide) ?_
  refine zr_putfield (fs' := [v1, .int 0, .ref ((y + 2)), .ref ((y + 3)), .ref ((y + 4)), v5, v6]) dX7_empty_2 pX7_15 h (by decide) (rfl) (rfl) (Nat.le_of_ble_eq_true rfl) rfl ?_
  refine zr_sig (fun ks1 e_ks1 => ?_)
  have kh2 : ks1.1 y = .inr (5, [v1, .int 0, .ref ((y + 2)), .ref ((y + 3)), .ref ((y + 4)), v5, v6]) := by rw [e_ks1]; exact zup_at _ _ _
  have kF3 := zFr.put zFr.rf (P := fun q => q = y) e_ks1 (by first | omega | simp)
  exact zr_return dX7_empty_5 rfl (⟨rfl, kF3, kh2⟩)

/-- the court at x: its docket A, the snapshot S, m dockets U to go back to, n characters T of text, ll characters ln of the line, whether there is a snapshot, the kept fault, the denial -/
def zKt (x : Nat) (A S : zDk) (m : Nat) (U : Nat → zDk) (n : Nat) (T : Nat → Int32) (ll : Nat) (ln : Nat → Int32) (hs kf ld dt dc : Int32) (σ : zS) : Prop := ∃ (K : zDk) (lf : Nat → Int32),
  σ.1 x = .inr (7, [.ref (x + 1), .ref (x + 2), .ref (x + 24), .ref (x + 31), .ref (x + 53), .ref (x + 75), .ref (x + 253), .ref (x + 255), .ref (x + 260), .int (nI ll), .int hs, .int kf, .int ld, .int dt, .int dc]) ∧
  zDA (x + 2) A σ ∧ zDA (x + 31) K σ ∧ zDw K ∧ zDA (x + 53) S σ ∧ zHi (x + 75) m U σ ∧ zJd x σ ∧ zSk (x + 255) n T σ ∧ σ.1 (x + 260) = .inl (1, 400, .inl lf) ∧ ∀ k, k < ll → lf k = ln k
def zXr (x q : Nat) : Prop := x ≤ q ∧ q < x + 261
theorem zKt.fr {x : Nat} {A S : zDk} {m : Nat} {U : Nat → zDk} {n : Nat} {T : Nat → Int32} {ll : Nat} {ln : Nat → Int32} {hs kf ld dt dc : Int32} {σ s : zS} {P : Nat → Prop} (h : zKt x A S m U n T ll ln hs kf ld dt dc σ) (F : zFr σ s P) (hp : ∀ q, x ≤ q → q < x + 261 → ¬ P q) : zKt x A S m U n T ll ln hs kf ld dt dc s := by
  obtain ⟨K, lf, h1, h2, h3, h4, h5, h6, h7, h8, h9, h10⟩ := h
  exact ⟨K, lf, F.get (hp _ (by omega) (by omega)) h1, h2.fr F (fun q a b => hp q (by omega) (by omega)), h3.fr F (fun q a b => hp q (by omega) (by omega)), h4, h5.fr F (fun q a b => hp q (by omega) (by omega)), h6.fr F (fun q a b => hp q (by omega) (by omega)), h7.fr F (fun q a b => hp q (by omega) (by omega)), h8.fr F (fun q a b => hp q (by omega) (by omega)), F.get (hp _ (by omega) (by omega)) h9, h10⟩
theorem zNN {σ : zS} (h : σ.2 = none) : ((σ.1, none) : zS) = σ := by rw [← h]
theorem zKt.obj {x : Nat} {A S : zDk} {m : Nat} {U : Nat → zDk} {n : Nat} {T : Nat → Int32} {ll : Nat} {ln : Nat → Int32} {hs kf ld dt dc : Int32} {σ : zS} (h : zKt x A S m U n T ll ln hs kf ld dt dc σ) : ∃ fs, σ.1 x = .inr (7, fs) := by
  obtain ⟨K, lf, h1, -⟩ := h
  exact ⟨_, h1⟩
theorem zcase (p : Int32) {c : Nat} (hc : c < 2 ^ 31) : (∃ i, i < c ∧ p = nI i) ∨ ¬ (¬ p < 0 ∧ p < nI c) := by
  rcases pk_ix p hc with h | h | ⟨j, h1, h2⟩
  · exact Or.inr (fun q => q.1 h)
  · exact Or.inr (fun q => absurd q.2 (Int32.not_lt.mpr h))
  · exact Or.inl ⟨j, h1, h2⟩
set_option maxHeartbeats 400000 in
set_option maxRecDepth 100000 in
theorem qX9_requireCase {X : zX} (hX : X.1.stackTraces = false) {σ : zS} {x : Nat} {A S : zDk} {m : Nat} {U : Nat → zDk} {n : Nat} {T : Nat → Int32} {ll : Nat} {ln : Nat → Int32} {hs kf ld dt dc : Int32} {i : Nat} (hC : zKt x A S m U n T ll ln hs kf ld dt dc σ) (hA : zDw A) (hi : i < kC A) : zMet X mX9_requireCase yX9_requireCase 1 0 0 [.ref x, .int (nI i)] σ (zV (fun s_ => s_ = σ)) := by
  refine zMet_of (ls := [some (.ref x), some (.int (nI i))]) rfl (by decide +kernel) rfl (fun h => by cases h) hX (Nat.le_of_ble_eq_true rfl) rfl ?_
  obtain ⟨K, lf, xo, xA, xK, wK, xS, xH, xJ, xT, xL, lL⟩ := id hC
  obtain ⟨hj, jr, jk, jc, jo⟩ := id xJ
  obtain ⟨hC8, hP8, hW⟩ := id hA
  refine zr_aload_n dX9_requireCase_0 rfl ?_
  refine zr_getfield dX9_requireCase_1 fX9_20 xo rfl (by decide) ?_
  refine zr_iload_n dX9_requireCase_4 rfl ?_
  refine zr_pVi [] dX9_requireCase_5 vX9_378 (qX3_hasCase hX (x := nI i) xA) (zDA.obj xA) (by decide) (by decide) (by decide) rfl rfl (Nat.le_of_ble_eq_true rfl) (by decide) rfl ?_
  refine zr_if_ne (tgt := 22) dX9_requireCase_8 (by decide) (fun c_8 => ?_) (fun c_8 => absurd c_8 (fun q => absurd ((hc_iff (by omega) (by omega)).mp q) (Classical.not_not.mpr hi)))
  exact zr_return dX9_requireCase_22 rfl (⟨rfl, rfl⟩)

set_option maxHeartbeats 400000 in
set_option maxRecDepth 100000 in
theorem qX9_requireCaseX {X : zX} (hX : X.1.stackTraces = false) {σ : zS} {x : Nat} {A S : zDk} {m : Nat} {U : Nat → zDk} {n : Nat} {T : Nat → Int32} {ll : Nat} {ln : Nat → Int32} {hs kf ld dt dc : Int32} {p : Int32} (hC : zKt x A S m U n T ll ln hs kf ld dt dc σ) (hA : zDw A) (hno : ¬ (¬ p < 0 ∧ p < nI (kC A))) (hN : σ.2 = none) : zMet X mX9_requireCase yX9_requireCase 6 1 6 [.ref x, .int p] σ (fun o s => o = .inr "java/lang/IndexOutOfBoundsException" ∧ s = σ) := by
  refine zMet_of (ls := [some (.ref x), some (.int p)]) rfl (by decide +kernel) rfl (fun h => by cases h) hX (Nat.le_of_ble_eq_true rfl) rfl ?_
  obtain ⟨K, lf, xo, xA, xK, wK, xS, xH, xJ, xT, xL, lL⟩ := id hC
  obtain ⟨hj, jr, jk, jc, jo⟩ := id xJ
  obtain ⟨hC8, hP8, hW⟩ := id hA
  refine zr_aload_n dX9_requireCase_0 rfl ?_
  refine zr_getfield dX9_requireCase_1 fX9_20 xo rfl (by decide) ?_
  refine zr_iload_n dX9_requireCase_4 rfl ?_
  refine zr_pVi [] dX9_requireCase_5 vX9_378 (qX3_hasCase hX (x := p) xA) (zDA.obj xA) (by decide) (by decide) (by decide) rfl rfl (Nat.le_of_ble_eq_true rfl) (by decide) rfl ?_
  refine zr_if_ne (tgt := 22) dX9_requireCase_8 (by decide) (fun c_8 => absurd (ite10.mpr hno) c_8) (fun c_8 => ?_)
  exact zr_thrW dX9_requireCase_11 dX9_requireCase_14 dX9_requireCase_15 dX9_requireCase_18 dX9_requireCase_21 thX9_357_381 rfl (by decide) (by decide) (by decide) (by decide) (⟨rfl, zNN hN⟩)

