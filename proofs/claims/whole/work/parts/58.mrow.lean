/-! the row of numbers stands for a docket -/
def zpd (A : zDk) (p : Nat) : Int32 := if kT A p = 0 then 2 else 1
def zvd (A : zDk) (i : Nat) : Int32 := if kR A i = -1 then 0 else zpd A (kR A i).toNatClampNeg
def zGr (A : zDk) (g : Nat → Int32) : Prop := g 0 = nI (kC A) ∧ g 1 = nI (kP A) ∧ (∀ i, i < kC A → g (2 + 5 * i) = nI (kN A i) ∧ g (2 + 5 * i + 1) = zvd A i ∧ g (2 + 5 * i + 2) = kR A i ∧ ∀ k, k < kN A i → zdl g (2 + 5 * i) k = kL A i k) ∧ ∀ p, p < kP A → g (42 + 5 * p) = nI (kN A (zmk A p)) ∧ g (42 + 5 * p + 1) = zpd A p ∧ g (42 + 5 * p + 2) = kA A p ∧ ∀ k, k < kN A (zmk A p) → zdl g (42 + 5 * p) k = kL A (zmk A p) k
theorem zGr.cg {A : zDk} {g g1 : Nat → Int32} (h : zGr A g) (hA : zDw A) (e : ∀ k, k < 82 → g1 k = g k) : zGr A g1 := by
  obtain ⟨h0, h1, h2, h3⟩ := h
  have hc := hA.1
  have hp := hA.2.1
  refine ⟨(e 0 (by omega)).trans h0, (e 1 (by omega)).trans h1, fun i hi => ?_, fun p hp2 => ?_⟩
  · obtain ⟨a1, a2, a3, a4⟩ := h2 i hi
    have n16 := (hA.2.2 i (by omega)).1
    exact ⟨(e _ (by omega)).trans a1, (e _ (by omega)).trans a2, (e _ (by omega)).trans a3, fun k hk => (zdl_cg (e _ (by omega))).trans (a4 k hk)⟩
  · obtain ⟨a1, a2, a3, a4⟩ := h3 p hp2
    have n16 := (hA.2.2 (zmk A p) (hA.mk (i := p) (by omega)).1).1
    exact ⟨(e _ (by omega)).trans a1, (e _ (by omega)).trans a2, (e _ (by omega)).trans a3, fun k hk => (zdl_cg (e _ (by omega))).trans (a4 k hk)⟩
theorem isin_iff {p : Int32} {c : Nat} (hc : c ≤ 1000) : (0 ≤ p ∧ p ≤ nI c - 1) ↔ (¬ p < 0 ∧ p < nI c) := by
  have e := pk_sub_toInt (a := c) (b := 1) (by omega) (by omega)
  have e2 := nI_toInt (n := c) (by omega)
  rw [Int32.le_iff_toInt_le, Int32.le_iff_toInt_le, Int32.lt_iff_toInt_lt, Int32.lt_iff_toInt_lt, show nI c - 1 = nI c - nI 1 from rfl, e, e2]
  rw [show (0 : Int32).toInt = 0 from rfl]
  omega
theorem isin_if {p : Int32} {c : Nat} (hc : c ≤ 1000) : (if 0 ≤ p ∧ p ≤ nI c - 1 then (1 : Int32) else 0) = if ¬ p < 0 ∧ p < nI c then 1 else 0 := by
  by_cases h : ¬ p < 0 ∧ p < nI c
  · rw [if_pos h, if_pos ((isin_iff hc).mpr h)]
  · rw [if_neg h, if_neg (fun q => h ((isin_iff hc).mp q))]
theorem isin_y {i c : Nat} (hi : i < c) (hc : c ≤ 1000) : ¬ nI i < 0 ∧ nI i < nI c := ⟨nI_pos (by omega), (nI_ltI (by omega) (by omega)).mpr hi⟩
set_option maxHeartbeats 400000 in
set_option maxRecDepth 100000 in
theorem qX10_isCase {X : zX} (hX : X.1.stackTraces = false) {σ : zS} {y : Nat} {F : Nat → Int32} {g : Nat → Int32} {c : Nat} {p : Int32} (h0 : σ.1 y = zmO y F) (h1 : σ.1 (y + 1) = .inl (0, 82, .inl g)) (hc : g 0 = nI c) (hc8 : c ≤ 8) : zMet X mX10_isCase yX10_isCase 1 0 0 [.ref y, .int p] σ (zI (fun y_ s_ => y_ = (if ¬ p < 0 ∧ p < nI c then 1 else 0) ∧ s_ = σ)) := by
  refine zMet_of (ls := [some (.ref y), some (.int p)]) rfl (by decide +kernel) rfl (fun h => by cases h) hX (Nat.le_of_ble_eq_true rfl) rfl ?_
  refine zr_iload_n dX10_isCase_0 rfl ?_
  refine zr_iconst (v := 0) dX10_isCase_1 (by decide) ?_
  refine zr_aload_n dX10_isCase_2 rfl ?_
  refine zr_getM (v := .ref (y + 1)) dX10_isCase_3 fX10_7 h0 rfl ?_
  refine zr_iconst (v := 0) dX10_isCase_6 (by decide) ?_
  refine zr_iaload dX10_isCase_7 h1 (vp_in_nI (n := 0) (by omega) (by omega)) ?_
  rw [show (0 : Int32).toNatClampNeg = 0 from by decide]
  refine zr_eqi (x' := nI c) (hc) ?_
  refine zr_iconst (v := 1) dX10_isCase_8 (by decide) ?_
  refine zr_isub dX10_isCase_9 ?_
  refine zr_pSi [] dX10_isCase_10 vX10_75 (qX10_in hX (v := p) (l := 0) (h := (nI c - 1))) (by decide) (by decide) (by decide) rfl rfl (Nat.le_of_ble_eq_true rfl) rfl ?_
  exact zr_ireturn dX10_isCase_13 rfl (by split <;> rfl) (⟨_, rfl, isin_if (by omega), rfl⟩)

set_option maxHeartbeats 400000 in
set_option maxRecDepth 100000 in
theorem qX10_isNone {X : zX} (hX : X.1.stackTraces = false) {σ : zS} {y : Nat} {F : Nat → Int32} {g : Nat → Int32} {c i : Nat} (h0 : σ.1 y = zmO y F) (h1 : σ.1 (y + 1) = .inl (0, 82, .inl g)) (hc : g 0 = nI c) (hc8 : c ≤ 8) (hi : i < c) : zMet X mX10_isNone yX10_isNone 2 0 0 [.ref y, .int (nI i)] σ (zI (fun y_ s => y_ = 0 ∧ zFr σ s (fun q => q = y) ∧ s.1 y = zmO y (upd (upd F 7 0) 8 0))) := by
  refine zMet_of (ls := [some (.ref y), some (.int (nI i))]) rfl (by decide +kernel) rfl (fun h => by cases h) hX (Nat.le_of_ble_eq_true rfl) rfl ?_
  refine zr_aload_n dX10_isNone_0 rfl ?_
  refine zr_aload_n dX10_isNone_1 rfl ?_
  refine zr_iload_n dX10_isNone_2 rfl ?_
  refine zr_pVi [.ref y] dX10_isNone_3 vX10_131 (qX10_isCase hX (p := nI i) h0 h1 hc hc8) h0 (by decide) (by decide) (by decide) rfl rfl (Nat.le_of_ble_eq_true rfl) (by decide) rfl ?_
  refine zr_if_eq (tgt := 13) dX10_isNone_6 (by decide) (fun c_6 => absurd c_6 (fun q => ite10.mp q (isin_y hi (by omega)))) (fun c_6 => ?_)
  refine zr_iconst (v := 0) dX10_isNone_9 (by decide) ?_
  refine zr_goto (tgt := 14) dX10_isNone_10 (by decide) ?_
  refine zr_callVi [] dX10_isNone_14 vX10_135 (qX10_fails hX (p := 0) h0) h0 (by decide) (by decide) (by decide) rfl rfl (Nat.le_of_ble_eq_true rfl) (by decide) rfl (fun kr1 s_kr1 h_kr1 => ?_)
  obtain ⟨e_kr1, F_kr1, g0_kr1⟩ := h_kr1
  have kh2 : s_kr1.1 (y + 1) = .inl (0, 82, .inl g) := zFr.get F_kr1 (by omega) h1
  have kF3 := zFr.tr zFr.rf (P := (fun q => q = y)) F_kr1 (by intro q hq; exact hq)
  replace e_kr1 := e_kr1.trans (if_pos (by decide) : (_ : Int32) = 0)
  obtain rfl := e_kr1.symm
  exact zr_ireturn dX10_isNone_17 rfl (rfl) (⟨_, rfl, rfl, kF3, g0_kr1⟩)

set_option maxHeartbeats 400000 in
set_option maxRecDepth 100000 in
theorem qX10_isNoneX {X : zX} (hX : X.1.stackTraces = false) {σ : zS} {y : Nat} {F : Nat → Int32} {g : Nat → Int32} {c : Nat} {p : Int32} (h0 : σ.1 y = zmO y F) (h1 : σ.1 (y + 1) = .inl (0, 82, .inl g)) (hc : g 0 = nI c) (hc8 : c ≤ 8) (hno : ¬ (¬ p < 0 ∧ p < nI c)) : zMet X mX10_isNone yX10_isNone 2 0 0 [.ref y, .int p] σ (zI (fun y_ s => y_ = 1 ∧ zFr σ s (fun q => q = y) ∧ s.1 y = zmO y (upd (upd F 7 0) 8 1))) := by
  refine zMet_of (ls := [some (.ref y), some (.int p)]) rfl (by decide +kernel) rfl (fun h => by cases h) hX (Nat.le_of_ble_eq_true rfl) rfl ?_
  refine zr_aload_n dX10_isNone_0 rfl ?_
  refine zr_aload_n dX10_isNone_1 rfl ?_
  refine zr_iload_n dX10_isNone_2 rfl ?_
  refine zr_pVi [.ref y] dX10_isNone_3 vX10_131 (qX10_isCase hX (p := p) h0 h1 hc hc8) h0 (by decide) (by decide) (by decide) rfl rfl (Nat.le_of_ble_eq_true rfl) (by decide) rfl ?_
  refine zr_if_eq (tgt := 13) dX10_isNone_6 (by decide) (fun c_6 => ?_) (fun c_6 => absurd (ite10.mpr hno) c_6)
  refine zr_iconst (v := 1) dX10_isNone_13 (by decide) ?_
  refine zr_callVi [] dX10_isNone_14 vX10_135 (qX10_fails hX (p := 1) h0) h0 (by decide) (by decide) (by decide) rfl rfl (Nat.le_of_ble_eq_true rfl) (by decide) rfl (fun kr1 s_kr1 h_kr1 => ?_)
  obtain ⟨e_kr1, F_kr1, g0_kr1⟩ := h_kr1
  have kh2 : s_kr1.1 (y + 1) = .inl (0, 82, .inl g) := zFr.get F_kr1 (by omega) h1
  have kF3 := zFr.tr zFr.rf (P := (fun q => q = y)) F_kr1 (by intro q hq; exact hq)
  replace e_kr1 := e_kr1.trans (if_neg (by decide) : (_ : Int32) = 1)
  obtain rfl := e_kr1.symm
  exact zr_ireturn dX10_isNone_17 rfl (rfl) (⟨_, rfl, rfl, kF3, g0_kr1⟩)

set_option maxHeartbeats 400000 in
set_option maxRecDepth 100000 in
theorem qX10_of {X : zX} (hX : X.1.stackTraces = false) {σ : zS} {y : Nat} {F : Nat → Int32} {g : Nat → Int32} {i k : Nat} (h0 : σ.1 y = zmO y F) (h1 : σ.1 (y + 1) = .inl (0, 82, .inl g)) (hik : 2 + 5 * i + k < 82) : zMet X mX10_of yX10_of 1 0 0 [.ref y, .int (nI i), .int (nI k)] σ (zI (fun y_ s_ => y_ = g (2 + 5 * i + k) ∧ s_ = σ)) := by
  refine zMet_of (ls := [some (.ref y), some (.int (nI i)), some (.int (nI k))]) rfl (by decide +kernel) rfl (fun h => by cases h) hX (Nat.le_of_ble_eq_true rfl) rfl ?_
  refine zr_aload_n dX10_of_0 rfl ?_
  refine zr_getM (v := .ref (y + 1)) dX10_of_1 fX10_7 h0 rfl ?_
  refine zr_iload_n dX10_of_4 rfl ?_
  refine zr_pSi [.ref ((y + 1))] dX10_of_5 vX10_138 (qX10_caseAt hX (i := i)) (by decide) (by decide) (by decide) rfl rfl (Nat.le_of_ble_eq_true rfl) rfl ?_
  refine zr_iload_n dX10_of_8 rfl ?_
  refine zr_iadd dX10_of_9 ?_
  refine zr_eqi (x' := nI ((2 + 5 * i) + k)) (nI_add (2 + 5 * i) k) ?_
  refine zr_iaload dX10_of_10 h1 (vp_in_nI (n := (2 + 5 * i) + k) (by omega) (by omega)) ?_
  rw [nI_clamp (n := (2 + 5 * i) + k) (by omega)]
  exact zr_ireturn dX10_of_11 rfl (rfl) (⟨_, rfl, rfl, rfl⟩)

theorem zvd0 (A : zDk) (i : Nat) : zvd A i = 0 ↔ kR A i = -1 := by
  unfold zvd
  by_cases h : kR A i = -1
  · rw [if_pos h]; exact ⟨fun _ => h, fun _ => rfl⟩
  · rw [if_neg h]; unfold zpd; exact ⟨fun q => by split at q <;> exact absurd q (by decide), fun q => absurd q h⟩
theorem zvd1 (A : zDk) (i : Nat) : zvd A i = 1 ↔ ¬ zvt A i = 0 := by
  unfold zvd zvt zpd
  by_cases h : kR A i = -1
  · rw [if_pos h, if_pos h]; exact ⟨fun q => absurd q (by decide), fun q => absurd rfl q⟩
  · rw [if_neg h, if_neg h]
    by_cases h2 : kT A (kR A i).toNatClampNeg = 0
    · rw [if_pos h2, if_pos h2]; exact ⟨fun q => absurd q (by decide), fun q => absurd rfl q⟩
    · rw [if_neg h2, if_neg h2]; exact ⟨fun _ => by decide, fun _ => rfl⟩
theorem zvd_3 (A : zDk) (i : Nat) : zvd A i = 0 ∨ zvd A i = 1 ∨ zvd A i = 2 := by
  unfold zvd zpd
  split
  · exact Or.inl rfl
  · split
    · exact Or.inr (Or.inr rfl)
    · exact Or.inr (Or.inl rfl)
set_option maxHeartbeats 400000 in
set_option maxRecDepth 100000 in
theorem qX10_isClosed {X : zX} (hX : X.1.stackTraces = false) {σ : zS} {y : Nat} {F : Nat → Int32} {g : Nat → Int32} {A : zDk} {i : Nat} (h0 : σ.1 y = zmO y F) (h1 : σ.1 (y + 1) = .inl (0, 82, .inl g)) (gr : zGr A g) (hA : zDw A) (hi : i < kC A) (hr : kR A i = -1) : zMet X mX10_isClosed yX10_isClosed 2 0 0 [.ref y, .int (nI i)] σ (zI (fun y_ s_ => y_ = 0 ∧ s_ = σ)) := by
  refine zMet_of (ls := [some (.ref y), some (.int (nI i))]) rfl (by decide +kernel) rfl (fun h => by cases h) hX (Nat.le_of_ble_eq_true rfl) rfl ?_
  obtain ⟨r0, r1, rc, rp⟩ := id gr
  obtain ⟨hC8, hP8, hW⟩ := id hA
  refine zr_aload_n dX10_isClosed_0 rfl ?_
  refine zr_iload_n dX10_isClosed_1 rfl ?_
  refine zr_iconst (v := 1) dX10_isClosed_2 (by decide) ?_
  refine zr_pVi [] dX10_isClosed_3 vX10_149 (qX10_of hX (i := i) (k := 1) h0 h1 (by omega)) h0 (by decide) (by decide) (by decide) rfl rfl (Nat.le_of_ble_eq_true rfl) (by decide) rfl ?_
  refine zr_eqi (x' := (zvd A i)) ((rc i hi).2.1) ?_
  refine zr_if_ne (tgt := 11) dX10_isClosed_6 (by decide) (fun c_6 => absurd ((zvd0 A i).mpr hr) c_6) (fun c_6 => ?_)
  refine zr_iconst (v := 0) dX10_isClosed_9 (by decide) ?_
  exact zr_ireturn dX10_isClosed_10 rfl (rfl) (⟨_, rfl, rfl, rfl⟩)

set_option maxHeartbeats 400000 in
set_option maxRecDepth 100000 in
theorem qX10_isClosedX {X : zX} (hX : X.1.stackTraces = false) {σ : zS} {y : Nat} {F : Nat → Int32} {g : Nat → Int32} {A : zDk} {i : Nat} (h0 : σ.1 y = zmO y F) (h1 : σ.1 (y + 1) = .inl (0, 82, .inl g)) (gr : zGr A g) (hA : zDw A) (hi : i < kC A) (hr : ¬ kR A i = -1) : zMet X mX10_isClosed yX10_isClosed 2 0 0 [.ref y, .int (nI i)] σ (zI (fun y_ s => y_ = 1 ∧ zFr σ s (fun q => q = y) ∧ s.1 y = zmO y (upd (upd (upd (upd (upd F 7 1) 8 2) 9 2) 10 (kR A i)) 11 0))) := by
  refine zMet_of (ls := [some (.ref y), some (.int (nI i))]) rfl (by decide +kernel) rfl (fun h => by cases h) hX (Nat.le_of_ble_eq_true rfl) rfl ?_
  obtain ⟨r0, r1, rc, rp⟩ := id gr
  obtain ⟨hC8, hP8, hW⟩ := id hA
  refine zr_aload_n dX10_isClosed_0 rfl ?_
  refine zr_iload_n dX10_isClosed_1 rfl ?_
  refine zr_iconst (v := 1) dX10_isClosed_2 (by decide) ?_
  refine zr_pVi [] dX10_isClosed_3 vX10_149 (qX10_of hX (i := i) (k := 1) h0 h1 (by omega)) h0 (by decide) (by decide) (by decide) rfl rfl (Nat.le_of_ble_eq_true rfl) (by decide) rfl ?_
  refine zr_eqi (x' := (zvd A i)) ((rc i hi).2.1) ?_
  refine zr_if_ne (tgt := 11) dX10_isClosed_6 (by decide) (fun c_6 => ?_) (fun c_6 => absurd c_6 (fun q => hr ((zvd0 A i).mp q)))
  refine zr_aload_n dX10_isClosed_11 rfl ?_
  refine zr_iconst (v := 2) dX10_isClosed_12 (by decide) ?_
  refine zr_iconst (v := 2) dX10_isClosed_13 (by decide) ?_
  refine zr_aload_n dX10_isClosed_14 rfl ?_
  refine zr_iload_n dX10_isClosed_15 rfl ?_
  refine zr_iconst (v := 2) dX10_isClosed_16 (by decide) ?_
  refine zr_pVi [.int 2, .int 2, .ref y] dX10_isClosed_17 vX10_149 (qX10_of hX (i := i) (k := 2) h0 h1 (by omega)) h0 (by decide) (by decide) (by decide) rfl rfl (Nat.le_of_ble_eq_true rfl) (by decide) rfl ?_
  refine zr_eqi (x' := (kR A i)) ((rc i hi).2.2.1) ?_
  refine zr_callVi [] dX10_isClosed_20 vX10_141 (qX10_denies hX (p := 2) (n := 2) (q := (kR A i)) h0) h0 (by decide) (by decide) (by decide) rfl rfl (Nat.le_of_ble_eq_true rfl) (by decide) rfl (fun kr1 s_kr1 h_kr1 => ?_)
  obtain ⟨e_kr1, F_kr1, g0_kr1⟩ := h_kr1
  have kh2 : s_kr1.1 (y + 1) = .inl (0, 82, .inl g) := zFr.get F_kr1 (by omega) h1
  have kF3 := zFr.tr zFr.rf (P := (fun q => q = y)) F_kr1 (by intro q hq; exact hq)
  obtain rfl := e_kr1.symm
  refine zr_pop dX10_isClosed_23 rfl ?_
  refine zr_iconst (v := 1) dX10_isClosed_24 (by decide) ?_
  exact zr_ireturn dX10_isClosed_25 rfl (rfl) (⟨_, rfl, rfl, kF3, g0_kr1⟩)

set_option maxHeartbeats 400000 in
set_option maxRecDepth 100000 in
theorem l_tw {X : zX} (hX : X.1.stackTraces = false) {σ : zS} {y : Nat} {F : Nat → Int32} {g : Nat → Int32} {A : zDk} {i : Nat} (h0 : σ.1 y = zmO y F) (h1 : σ.1 (y + 1) = .inl (0, 82, .inl g)) (gr : zGr A g) (hA : zDw A) (hi : i < kC A) : ∀ (j k : Nat) (u : Int32), k + j = (kN A i) → (u = zSum (kL A i) k) → zW X mX10_twist 2 0 0 (zI (fun y_ s_ => y_ = zSum (kL A i) (kN A i) ∧ s_ = σ)) 4 [some (.ref y), some (.int (nI i)), some (.int u), some (.int (nI k))] [] σ := by
  intro j
  induction j with
  | zero =>
    intro k u hk hu
    obtain ⟨r0, r1, rc, rp⟩ := id gr
    obtain ⟨hC8, hP8, hW⟩ := id hA
    have n16 := (hW i (by omega)).1
    refine zr_iload_n dX10_twist_4 rfl ?_
    refine zr_aload_n dX10_twist_5 rfl ?_
    refine zr_iload_n dX10_twist_6 rfl ?_
    refine zr_iconst (v := 0) dX10_twist_7 (by decide) ?_
    refine zr_pVi [.int (nI k)] dX10_twist_8 vX10_149 (qX10_of hX (i := i) (k := 0) h0 h1 (by omega)) h0 (by decide) (by decide) (by decide) rfl rfl (Nat.le_of_ble_eq_true rfl) (by decide) rfl ?_
    refine zr_eqi (x' := nI (kN A i)) ((rc i hi).1) ?_
    refine zr_icmp_ge (tgt := 40) dX10_twist_11 (by decide) (fun c_11 => ?_) (fun c_11 => absurd ((nI_leI (a := kN A i) (b := k) (by omega) (by omega)).mpr (by omega)) c_11)
    refine zr_iload_n dX10_twist_40 rfl ?_
    exact zr_ireturn dX10_twist_41 rfl (rfl) (by have e1 : k = kN A i := (by omega); rw [← e1]; exact ⟨_, rfl, hu, rfl⟩)
  | succ j ih =>
    intro k u hk hu
    obtain ⟨r0, r1, rc, rp⟩ := id gr
    obtain ⟨hC8, hP8, hW⟩ := id hA
    have n16 := (hW i (by omega)).1
    refine zr_iload_n dX10_twist_4 rfl ?_
    refine zr_aload_n dX10_twist_5 rfl ?_
    refine zr_iload_n dX10_twist_6 rfl ?_
    refine zr_iconst (v := 0) dX10_twist_7 (by decide) ?_
    refine zr_pVi [.int (nI k)] dX10_twist_8 vX10_149 (qX10_of hX (i := i) (k := 0) h0 h1 (by omega)) h0 (by decide) (by decide) (by decide) rfl rfl (Nat.le_of_ble_eq_true rfl) (by decide) rfl ?_
    refine zr_eqi (x' := nI (kN A i)) ((rc i hi).1) ?_
    refine zr_icmp_ge (tgt := 40) dX10_twist_11 (by decide) (fun c_11 => absurd c_11 (fun h => absurd ((nI_leI (a := kN A i) (b := k) (by omega) (by omega)).mp h) (by omega))) (fun c_11 => ?_)
    refine zr_iload_n dX10_twist_14 rfl ?_
    refine zr_aload_n dX10_twist_15 rfl ?_
    refine zr_iload_n dX10_twist_16 rfl ?_
    refine zr_pSi [.ref y, .int u] dX10_twist_17 vX10_138 (qX10_caseAt hX (i := i)) (by decide) (by decide) (by decide) rfl rfl (Nat.le_of_ble_eq_true rfl) rfl ?_
    refine zr_iload_n dX10_twist_20 rfl ?_
    refine zr_pVi [.int u] dX10_twist_21 vX10_86 (qX10_letter hX (w := 2 + 5 * i) (k := k) h0 h1 (by omega) (by omega)) h0 (by decide) (by decide) (by decide) rfl rfl (Nat.le_of_ble_eq_true rfl) (by decide) rfl ?_
    refine zr_eqi (x' := (kL A i k)) ((rc i hi).2.2.2 k (by omega)) ?_
    refine zr_if_le (tgt := 31) dX10_twist_24 (by decide) (fun c_24 => ?_) (fun c_24 => ?_)
    · refine zr_iconst (v := -1) dX10_twist_31 (by decide) ?_
      refine zr_iadd dX10_twist_32 ?_
      refine zr_istore_n (ls' := [some (.ref y), some (.int (nI i)), some (.int ((u + (-1)))), some (.int (nI k))]) dX10_twist_33 rfl (by decide) rfl ?_
      refine zr_iinc (v := nI (k + 1)) (ls' := [some (.ref y), some (.int (nI i)), some (.int ((u + (-1)))), some (.int (nI (k + 1)))]) dX10_twist_34 rfl (nI_1 _) (by decide) rfl ?_
      refine zr_goto (tgt := 4) dX10_twist_37 (by decide) ?_
      exact ih (k + 1) _ (by omega) (by simp only [zSum]; rw [hu, zr_sg0 ((hW i (by omega)).2.1 k (by omega)) c_24])
    · refine zr_iconst (v := 1) dX10_twist_27 (by decide) ?_
      refine zr_goto (tgt := 32) dX10_twist_28 (by decide) ?_
      refine zr_iadd dX10_twist_32 ?_
      refine zr_istore_n (ls' := [some (.ref y), some (.int (nI i)), some (.int ((u + 1))), some (.int (nI k))]) dX10_twist_33 rfl (by decide) rfl ?_
      refine zr_iinc (v := nI (k + 1)) (ls' := [some (.ref y), some (.int (nI i)), some (.int ((u + 1))), some (.int (nI (k + 1)))]) dX10_twist_34 rfl (nI_1 _) (by decide) rfl ?_
      refine zr_goto (tgt := 4) dX10_twist_37 (by decide) ?_
      exact ih (k + 1) _ (by omega) (by simp only [zSum]; rw [hu, zr_sg1 ((hW i (by omega)).2.1 k (by omega)) c_24])

set_option maxHeartbeats 400000 in
set_option maxRecDepth 100000 in
theorem qX10_twist {X : zX} (hX : X.1.stackTraces = false) {σ : zS} {y : Nat} {F : Nat → Int32} {g : Nat → Int32} {A : zDk} {i : Nat} (h0 : σ.1 y = zmO y F) (h1 : σ.1 (y + 1) = .inl (0, 82, .inl g)) (gr : zGr A g) (hA : zDw A) (hi : i < kC A) : zMet X mX10_twist yX10_twist 2 0 0 [.ref y, .int (nI i)] σ (zI (fun y_ s_ => y_ = zSum (kL A i) (kN A i) ∧ s_ = σ)) := by
  refine zMet_of (ls := [some (.ref y), some (.int (nI i)), none, none]) rfl (by decide +kernel) rfl (fun h => by cases h) hX (Nat.le_of_ble_eq_true rfl) rfl ?_
  refine zr_iconst (v := 0) dX10_twist_0 (by decide) ?_
  refine zr_istore_n (ls' := [some (.ref y), some (.int (nI i)), some (.int 0), none]) dX10_twist_1 rfl (by decide) rfl ?_
  refine zr_iconst (v := 0) dX10_twist_2 (by decide) ?_
  refine zr_istore_n (ls' := [some (.ref y), some (.int (nI i)), some (.int 0), some (.int 0)]) dX10_twist_3 rfl (by decide) rfl ?_
  exact l_tw hX h0 h1 gr hA hi (kN A i) 0 _ (by omega) rfl

set_option maxHeartbeats 400000 in
set_option maxRecDepth 100000 in
theorem l_en {X : zX} (hX : X.1.stackTraces = false) {σ : zS} {y : Nat} {F : Nat → Int32} {g : Nat → Int32} {A : zDk} {i : Nat} {p : Int32} (h0 : σ.1 y = zmO y F) (h1 : σ.1 (y + 1) = .inl (0, 82, .inl g)) (gr : zGr A g) (hA : zDw A) (hi : i < kC A) : ∀ (j k : Nat) (u : Int32) (x5 : Option Value), k + j = (kN A i) → (u = zEnd (kL A i) p k) → zW X mX10_end 2 0 0 (zI (fun y_ s_ => y_ = zEnd (kL A i) p (kN A i) ∧ s_ = σ)) 5 [some (.ref y), some (.int (nI i)), some (.int p), some (.int u), some (.int (nI k)), x5] [] σ := by
  intro j
  induction j with
  | zero =>
    intro k u x5 hk hu
    obtain ⟨r0, r1, rc, rp⟩ := id gr
    obtain ⟨hC8, hP8, hW⟩ := id hA
    have n16 := (hW i (by omega)).1
    refine zr_iload dX10_end_5 rfl ?_
    refine zr_aload_n dX10_end_7 rfl ?_
    refine zr_iload_n dX10_end_8 rfl ?_
    refine zr_iconst (v := 0) dX10_end_9 (by decide) ?_
    refine zr_pVi [.int (nI k)] dX10_end_10 vX10_149 (qX10_of hX (i := i) (k := 0) h0 h1 (by omega)) h0 (by decide) (by decide) (by decide) rfl rfl (Nat.le_of_ble_eq_true rfl) (by decide) rfl ?_
    refine zr_eqi (x' := nI (kN A i)) ((rc i hi).1) ?_
    refine zr_icmp_ge (tgt := 65) dX10_end_13 (by decide) (fun c_13 => ?_) (fun c_13 => absurd ((nI_leI (a := kN A i) (b := k) (by omega) (by omega)).mpr (by omega)) c_13)
    refine zr_iload_n dX10_end_65 rfl ?_
    exact zr_ireturn dX10_end_66 rfl (rfl) (by have e1 : k = kN A i := (by omega); rw [← e1]; exact ⟨_, rfl, hu, rfl⟩)
  | succ j ih =>
    intro k u x5 hk hu
    obtain ⟨r0, r1, rc, rp⟩ := id gr
    obtain ⟨hC8, hP8, hW⟩ := id hA
    have n16 := (hW i (by omega)).1
    refine zr_iload dX10_end_5 rfl ?_
    refine zr_aload_n dX10_end_7 rfl ?_
    refine zr_iload_n dX10_end_8 rfl ?_
    refine zr_iconst (v := 0) dX10_end_9 (by decide) ?_
    refine zr_pVi [.int (nI k)] dX10_end_10 vX10_149 (qX10_of hX (i := i) (k := 0) h0 h1 (by omega)) h0 (by decide) (by decide) (by decide) rfl rfl (Nat.le_of_ble_eq_true rfl) (by decide) rfl ?_
    refine zr_eqi (x' := nI (kN A i)) ((rc i hi).1) ?_
    refine zr_icmp_ge (tgt := 65) dX10_end_13 (by decide) (fun c_13 => absurd c_13 (fun h => absurd ((nI_leI (a := kN A i) (b := k) (by omega) (by omega)).mp h) (by omega))) (fun c_13 => ?_)
    refine zr_aload_n dX10_end_16 rfl ?_
    refine zr_iload_n dX10_end_17 rfl ?_
    refine zr_pSi [.ref y] dX10_end_18 vX10_138 (qX10_caseAt hX (i := i)) (by decide) (by decide) (by decide) rfl rfl (Nat.le_of_ble_eq_true rfl) rfl ?_
    refine zr_iload dX10_end_21 rfl ?_
    refine zr_pVi [] dX10_end_23 vX10_86 (qX10_letter hX (w := 2 + 5 * i) (k := k) h0 h1 (by omega) (by omega)) h0 (by decide) (by decide) (by decide) rfl rfl (Nat.le_of_ble_eq_true rfl) (by decide) rfl ?_
    refine zr_eqi (x' := (kL A i k)) ((rc i hi).2.2.2 k (by omega)) ?_
    refine zr_pSi [] dX10_end_26 vX10_97 (qX10_size hX (v := (kL A i k))) (by decide) (by decide) (by decide) rfl rfl (Nat.le_of_ble_eq_true rfl) rfl ?_
    refine zr_istore (ls' := [some (.ref y), some (.int (nI i)), some (.int p), some (.int u), some (.int (nI k)), some (.int ((zix (kL A i k))))]) dX10_end_29 (by decide) rfl ?_
    refine zr_iload_n dX10_end_31 rfl ?_
    refine zr_iload dX10_end_32 rfl ?_
    refine zr_icmp_ne (tgt := 44) dX10_end_34 (by decide) (fun c_34 => ?_) (fun c_34 => ?_)
    · refine zr_iload_n dX10_end_44 rfl ?_
      refine zr_iload dX10_end_45 rfl ?_
      refine zr_iconst (v := 1) dX10_end_47 (by decide) ?_
      refine zr_iadd dX10_end_48 ?_
      refine zr_icmp_ne (tgt := 57) dX10_end_49 (by decide) (fun c_49 => ?_) (fun c_49 => ?_)
      · refine zr_iload_n dX10_end_57 rfl ?_
        refine zr_istore_n (ls' := [some (.ref y), some (.int (nI i)), some (.int p), some (.int u), some (.int (nI k)), some (.int ((zix (kL A i k))))]) dX10_end_58 rfl (by decide) rfl ?_
        refine zr_iinc (v := nI (k + 1)) (ls' := [some (.ref y), some (.int (nI i)), some (.int p), some (.int u), some (.int (nI (k + 1))), some (.int ((zix (kL A i k))))]) dX10_end_59 rfl (nI_1 _) (by decide) rfl ?_
        refine zr_goto (tgt := 5) dX10_end_62 (by decide) ?_
        exact ih (k + 1) _ _ (by omega) (by simp only [zEnd]; rw [← hu]; unfold zpa; rw [if_neg c_34, if_neg c_49])
      · refine zr_iload dX10_end_52 rfl ?_
        refine zr_goto (tgt := 58) dX10_end_54 (by decide) ?_
        refine zr_istore_n (ls' := [some (.ref y), some (.int (nI i)), some (.int p), some (.int ((zix (kL A i k)))), some (.int (nI k)), some (.int ((zix (kL A i k))))]) dX10_end_58 rfl (by decide) rfl ?_
        refine zr_iinc (v := nI (k + 1)) (ls' := [some (.ref y), some (.int (nI i)), some (.int p), some (.int ((zix (kL A i k)))), some (.int (nI (k + 1))), some (.int ((zix (kL A i k))))]) dX10_end_59 rfl (nI_1 _) (by decide) rfl ?_
        refine zr_goto (tgt := 5) dX10_end_62 (by decide) ?_
        exact ih (k + 1) _ _ (by omega) (by simp only [zEnd]; rw [← hu]; unfold zpa; rw [if_neg c_34, if_pos c_49])
    · refine zr_iload dX10_end_37 rfl ?_
      refine zr_iconst (v := 1) dX10_end_39 (by decide) ?_
      refine zr_iadd dX10_end_40 ?_
      refine zr_goto (tgt := 58) dX10_end_41 (by decide) ?_
      refine zr_istore_n (ls' := [some (.ref y), some (.int (nI i)), some (.int p), some (.int (((zix (kL A i k)) + 1))), some (.int (nI k)), some (.int ((zix (kL A i k))))]) dX10_end_58 rfl (by decide) rfl ?_
      refine zr_iinc (v := nI (k + 1)) (ls' := [some (.ref y), some (.int (nI i)), some (.int p), some (.int (((zix (kL A i k)) + 1))), some (.int (nI (k + 1))), some (.int ((zix (kL A i k))))]) dX10_end_59 rfl (nI_1 _) (by decide) rfl ?_
      refine zr_goto (tgt := 5) dX10_end_62 (by decide) ?_
      exact ih (k + 1) _ _ (by omega) (by simp only [zEnd]; rw [← hu]; unfold zpa; rw [if_pos c_34])

set_option maxHeartbeats 400000 in
set_option maxRecDepth 100000 in
theorem qX10_end {X : zX} (hX : X.1.stackTraces = false) {σ : zS} {y : Nat} {F : Nat → Int32} {g : Nat → Int32} {A : zDk} {i : Nat} {p : Int32} (h0 : σ.1 y = zmO y F) (h1 : σ.1 (y + 1) = .inl (0, 82, .inl g)) (gr : zGr A g) (hA : zDw A) (hi : i < kC A) : zMet X mX10_end yX10_end 2 0 0 [.ref y, .int (nI i), .int p] σ (zI (fun y_ s_ => y_ = zEnd (kL A i) p (kN A i) ∧ s_ = σ)) := by
  refine zMet_of (ls := [some (.ref y), some (.int (nI i)), some (.int p), none, none, none]) rfl (by decide +kernel) rfl (fun h => by cases h) hX (Nat.le_of_ble_eq_true rfl) rfl ?_
  refine zr_iload_n dX10_end_0 rfl ?_
  refine zr_istore_n (ls' := [some (.ref y), some (.int (nI i)), some (.int p), some (.int p), none, none]) dX10_end_1 rfl (by decide) rfl ?_
  refine zr_iconst (v := 0) dX10_end_2 (by decide) ?_
  refine zr_istore (ls' := [some (.ref y), some (.int (nI i)), some (.int p), some (.int p), some (.int 0), none]) dX10_end_3 (by decide) rfl ?_
  exact l_en hX h0 h1 gr hA hi (kN A i) 0 _ _ (by omega) rfl

set_option maxHeartbeats 400000 in
set_option maxRecDepth 100000 in
theorem qX10_isStrand {X : zX} (hX : X.1.stackTraces = false) {σ : zS} {p : Int32}  : zMet X mX10_isStrand yX10_isStrand 1 0 0 [.int p] σ (zI (fun y_ s_ => y_ = (if 1 ≤ p ∧ p ≤ 5 then 1 else 0) ∧ s_ = σ)) := by
  refine zMet_of (ls := [some (.int p)]) rfl (by decide +kernel) rfl (fun h => by cases h) hX (Nat.le_of_ble_eq_true rfl) rfl ?_
  refine zr_iload_n dX10_isStrand_0 rfl ?_
  refine zr_iconst (v := 1) dX10_isStrand_1 (by decide) ?_
  refine zr_iconst (v := 5) dX10_isStrand_2 (by decide) ?_
  refine zr_pSi [] dX10_isStrand_3 vX10_75 (qX10_in hX (v := p) (l := 1) (h := 5)) (by decide) (by decide) (by decide) rfl rfl (Nat.le_of_ble_eq_true rfl) rfl ?_
  exact zr_ireturn dX10_isStrand_6 rfl (by split <;> rfl) (⟨_, rfl, rfl, rfl⟩)

theorem zGr.wd {A : zDk} {g : Nat → Int32} (gr : zGr A g) {i : Nat} (hi : i < kC A) : zP (zdl g (2 + 5 * i)) (kN A i) = zWd A i := zP_congr (fun k hk => (gr.2.2.1 i hi).2.2.2 k hk)
theorem zGr.wp {A : zDk} {g : Nat → Int32} (gr : zGr A g) {p : Nat} (hp : p < kP A) : zP (zdl g (42 + 5 * p)) (kN A (zmk A p)) = zWd A (zmk A p) := zP_congr (fun k hk => (gr.2.2.2 p hp).2.2.2 k hk)
theorem zGr.wq {A : zDk} {g : Nat → Int32} (gr : zGr A g) {i j : Nat} (hi : i < kC A) (hj : j < kC A) : zQw (zdl g (2 + 5 * i)) (kN A i) (zdl g (2 + 5 * j)) (kN A j) = zWq A i j := zQw_congr (fun k hk => (gr.2.2.1 i hi).2.2.2 k hk) (fun k hk => (gr.2.2.1 j hj).2.2.2 k hk)
theorem zWk.cs {y : Nat} {L M : List Int32} {s : zS} (h : zWk y L s) (e : L = M) : zWk y M s := e ▸ h
/-- a case's word is taken -/
theorem qM_take {X : zX} (hX : X.1.stackTraces = false) {σ : zS} {y : Nat} {F : Nat → Int32} {g : Nat → Int32} {A : zDk} {i : Nat} (h0 : σ.1 y = zmO y F) (h1 : σ.1 (y + 1) = .inl (0, 82, .inl g)) (gr : zGr A g) (hA : zDw A) (hi : i < kC A) (hW : zWa y σ) : zMet X mX10_takes yX10_takes 2 0 0 [.ref y, .int (nI (2 + 5 * i))] σ (zV (fun s => zFr σ s (fun q => q = y ∨ q = y + 7) ∧ s.1 y = zmO y (upd F 19 (nI (kN A i))) ∧ zWk y (zWd A i) s)) := by
  obtain ⟨L, hL⟩ := hW
  have hc := hA.1
  refine (qX10_takes hX h0 h1 hL (gr.2.2.1 i hi).1 (hA.2.2 i (by omega)).1 (by omega)).mono (fun o s q => ?_)
  obtain ⟨e, F1, q0, q1⟩ := q
  exact ⟨e, F1, q0, q1.cs (gr.wd hi)⟩
theorem qM_takeQ {X : zX} (hX : X.1.stackTraces = false) {σ : zS} {y : Nat} {F : Nat → Int32} {g : Nat → Int32} {A : zDk} {i j : Nat} (h0 : σ.1 y = zmO y F) (h1 : σ.1 (y + 1) = .inl (0, 82, .inl g)) (gr : zGr A g) (hA : zDw A) (hi : i < kC A) (hj : j < kC A) (hW : zWa y σ) : zMet X mX10_takesQuotient yX10_takesQuotient 2 0 0 [.ref y, .int (nI (2 + 5 * i)), .int (nI (2 + 5 * j))] σ (zV (fun s => zFr σ s (fun q => q = y ∨ q = y + 7) ∧ s.1 y = zmO y (upd F 19 (nI (zWq A i j).length)) ∧ zWk y (zWq A i j) s)) := by
  obtain ⟨L, hL⟩ := hW
  have hc := hA.1
  refine (qX10_takesQuotient hX h0 h1 (gr.2.2.1 i hi).1 (hA.2.2 i (by omega)).1 (by omega) (gr.2.2.1 j hj).1 (hA.2.2 j (by omega)).1 (by omega) hL).mono (fun o s q => ?_)
  obtain ⟨e, F1, q0, q1⟩ := q
  have e2 : (zWq A i j).length = kN A i + kN A j := by unfold zWq zQw; rw [List.length_append, zA_len, zP_len]
  rw [← e2] at q0
  exact ⟨e, F1, q0, q1.cs (gr.wq hi hj)⟩
theorem zWk.wa {y : Nat} {L : List Int32} {s : zS} (h : zWk y L s) : zWa y s := ⟨L, h⟩
set_option maxHeartbeats 400000 in
set_option maxRecDepth 100000 in
theorem qX10_order {X : zX} (hX : X.1.stackTraces = false) {σ : zS} {y : Nat} {F : Nat → Int32} {g : Nat → Int32} {A : zDk} {i j : Nat} (h0 : σ.1 y = zmO y F) (h1 : σ.1 (y + 1) = .inl (0, 82, .inl g)) (gr : zGr A g) (hA : zDw A) (hi : i < kC A) (hj : j < kC A) (hWa : zWa y σ) (hX9 : zXa y σ) : zMet X mX10_order yX10_order 4 0 0 [.ref y, .int (nI i), .int (nI j)] σ (zI (fun y_ s => y_ = zqs A i j ∧ zFr σ s (fun q => q = y ∨ q = y + 7 ∨ q = y + 9) ∧ s.1 y = zmO y (upd F 19 (nI (zWq A i j).length)) ∧ zWa y s ∧ zXa y s)) := by
  refine zMet_of (ls := [some (.ref y), some (.int (nI i)), some (.int (nI j))]) rfl (by decide +kernel) rfl (fun h => by cases h) hX (Nat.le_of_ble_eq_true rfl) rfl ?_
  obtain ⟨r0, r1, rc, rp⟩ := id gr
  obtain ⟨hC8, hP8, hW⟩ := id hA
  refine zr_aload_n dX10_order_0 rfl ?_
  refine zr_iload_n dX10_order_1 rfl ?_
  refine zr_pSi [.ref y] dX10_order_2 vX10_138 (qX10_caseAt hX (i := i)) (by decide) (by decide) (by decide) rfl rfl (Nat.le_of_ble_eq_true rfl) rfl ?_
  refine zr_iload_n dX10_order_5 rfl ?_
  refine zr_pSi [.int (nI (2 + 5 * i)), .ref y] dX10_order_6 vX10_138 (qX10_caseAt hX (i := j)) (by decide) (by decide) (by decide) rfl rfl (Nat.le_of_ble_eq_true rfl) rfl ?_
  refine zr_callVv [] dX10_order_9 vX10_186 (qM_takeQ hX (i := i) (j := j) h0 h1 gr hA (by omega) (by omega) hWa) h0 (by decide) (by decide) (by decide) rfl rfl (Nat.le_of_ble_eq_true rfl) (by decide) rfl (fun s_kr1 h_kr1 => ?_)
  obtain ⟨F_kr1, g0_kr1, r0_kr1⟩ := h_kr1
  have kh2 : s_kr1.1 (y + 1) = .inl (0, 82, .inl g) := zFr.get F_kr1 (by omega) h1
  have kR3 : zXa y s_kr1 := zXa.fr hX9 F_kr1 (by intro q h1 h2 h3; (try simp only [zIn, zJf] at h3); omega)
  have kF4 := zFr.tr zFr.rf (P := (fun q => q = y ∨ q = y + 7 ∨ q = y + 9)) F_kr1 (by intro q hq; omega)
  refine zr_aload_n dX10_order_12 rfl ?_
  refine zr_callVi [] dX10_order_13 vX10_201 (qX10_signMeasured hX g0_kr1 rfl r0_kr1 (hA.wq (by omega) (by omega)) (zWq_len hA (by omega) (by omega)) kR3) g0_kr1 (by decide) (by decide) (by decide) rfl rfl (Nat.le_of_ble_eq_true rfl) (by decide) rfl (fun kr5 s_kr5 h_kr5 => ?_)
  obtain ⟨e_kr5, F_kr5, r0_kr5⟩ := h_kr5
  have kh6 : s_kr5.1 y = zmO y (upd F 19 (nI (zWq A i j).length)) := zFr.get F_kr5 (by omega) g0_kr1
  have kh7 : s_kr5.1 (y + 1) = .inl (0, 82, .inl g) := zFr.get F_kr5 (by omega) kh2
  have kR8 : zWk y (zWq A i j) s_kr5 := zWk.fr r0_kr1 F_kr5 (by intro q h1 h2 h3; (try simp only [zIn, zJf] at h3); omega)
  have kF9 := zFr.tr kF4 F_kr5 (by intro q hq; omega)
  obtain rfl := e_kr5.symm
  exact zr_ireturn dX10_order_16 rfl (rfl) (⟨_, rfl, rfl, kF9, kh6, (kR8).wa, r0_kr5⟩)

theorem zWd_wv {A : zDk} {i k : Nat} (hk : k < kN A i) : wv (zWd A i) k = kL A i k := zP_get (f := kL A i) hk
theorem zWd_l (A : zDk) (i : Nat) : (zWd A i).length = kN A i := zP_len _ _
set_option maxHeartbeats 400000 in
set_option maxRecDepth 100000 in
theorem qX10_hasOne {X : zX} (hX : X.1.stackTraces = false) {σ : zS} {y : Nat} {F : Nat → Int32} {g : Nat → Int32} {A : zDk} {i : Nat} (h0 : σ.1 y = zmO y F) (h1 : σ.1 (y + 1) = .inl (0, 82, .inl g)) (gr : zGr A g) (hA : zDw A) (hi : i < kC A) (hWa : zWa y σ) : zMet X mX10_hasOne yX10_hasOne 3 0 0 [.ref y, .int (nI i)] σ (zI (fun y_ s => ∃ (u v : Int32), zFr σ s (fun q => q = y ∨ q = y + 7) ∧ s.1 y = zmO y (upd (upd (upd F 19 (nI (kN A i))) 21 u) 22 v) ∧ zWa y s ∧ ((y_ = 0 ∧ zfe (kL A i) 0 (kN A i) = -1) ∨ ∃ a b, y_ = 1 ∧ a < b ∧ b < kN A i ∧ zfe (kL A i) 0 (kN A i) = nI b ∧ zhb (kL A i) b = nI a ∧ u = nI a ∧ v = nI b))) := by
  refine zMet_of (ls := [some (.ref y), some (.int (nI i))]) rfl (by decide +kernel) rfl (fun h => by cases h) hX (Nat.le_of_ble_eq_true rfl) rfl ?_
  obtain ⟨r0, r1, rc, rp⟩ := id gr
  obtain ⟨hC8, hP8, hW⟩ := id hA
  have n16 := (hW i (by omega)).1
  refine zr_aload_n dX10_hasOne_0 rfl ?_
  refine zr_iload_n dX10_hasOne_1 rfl ?_
  refine zr_pSi [.ref y] dX10_hasOne_2 vX10_138 (qX10_caseAt hX (i := i)) (by decide) (by decide) (by decide) rfl rfl (Nat.le_of_ble_eq_true rfl) rfl ?_
  refine zr_callVv [] dX10_hasOne_5 vX10_128 (qM_take hX (i := i) h0 h1 gr hA (by omega) hWa) h0 (by decide) (by decide) (by decide) rfl rfl (Nat.le_of_ble_eq_true rfl) (by decide) rfl (fun s_kr1 h_kr1 => ?_)
  obtain ⟨F_kr1, g0_kr1, r0_kr1⟩ := h_kr1
  have kh2 : s_kr1.1 (y + 1) = .inl (0, 82, .inl g) := zFr.get F_kr1 (by omega) h1
  have kF3 := zFr.tr zFr.rf (P := (fun q => q = y ∨ q = y + 7)) F_kr1 (by intro q hq; omega)
  refine zr_aload_n dX10_hasOne_8 rfl ?_
  refine zr_callVi [] dX10_hasOne_9 vX10_107 (qX10_finds hX (L := zWd A i) g0_kr1 (by rw [zWd_l]; rfl) r0_kr1 (hA.wd (by omega)) (by rw [zWd_l]; omega)) g0_kr1 (by decide) (by decide) (by decide) rfl rfl (Nat.le_of_ble_eq_true rfl) (by decide) rfl (fun r1 s1 h_ => ?_)
  obtain ⟨u1, v1, F1, g0, h2⟩ := h_
  have kF1 := zFr.tr kF3 F1 (by intro q hq; omega)
  have kW1 := zWk.fr r0_kr1 F1 (by intro q a b c; omega)
  rw [zWd_l, zfe_congr (fun k hk => zWd_wv hk) (kN A i) 0 (by omega)] at h2
  refine zr_ireturn dX10_hasOne_12 rfl (by rcases h2 with ⟨e, -⟩ | ⟨a, b, e, -⟩ <;> rw [e] <;> rfl) ?_
  refine ⟨_, rfl, u1, v1, kF1, g0, (kW1).wa, ?_⟩
  rcases h2 with ⟨e, e1⟩ | ⟨a, b, e, h3, h4, h5, h6, h7, h8, h9⟩
  · exact Or.inl ⟨e, e1⟩
  · exact Or.inr ⟨a, b, e, h3, h4, h5, by rw [zhb_congr (f := kL A i) (g := wv (zWd A i)) (fun k hk => (zWd_wv (by omega)).symm)]; exact h6, h8, h9⟩

set_option maxHeartbeats 400000 in
set_option maxRecDepth 100000 in
theorem qX10_isRelaxed {X : zX} (hX : X.1.stackTraces = false) {σ : zS} {y : Nat} {F : Nat → Int32} {g : Nat → Int32} {A : zDk} {i : Nat} {q : Nat × List Int32} (h0 : σ.1 y = zmO y F) (h1 : σ.1 (y + 1) = .inl (0, 82, .inl g)) (gr : zGr A g) (hA : zDw A) (hi : i < kC A) (hO : (zRn 2000 [] (zWd A i)) = some q) (hWa : zWa y σ) (hC : zCy y σ) : zMet X mX10_isRelaxed yX10_isRelaxed 3 0 0 [.ref y, .int (nI i)] σ (zI (fun y_ s => y_ = 1 ∧ ∃ u v, zFr σ s (fun q => q = y ∨ q = y + 7 ∨ q = y + 8) ∧ s.1 y = zmO y (upd (upd (upd (upd (upd (upd F 7 0) 8 0) 19 (nI q.2.length)) 20 (nI (2000 - q.1))) 21 u) 22 v) ∧ zWk y q.2 s ∧ zCy y s ∧ q.1 ≤ 2000 ∧ q.2.length ≤ 400)) := by
  refine zMet_of (ls := [some (.ref y), some (.int (nI i))]) rfl (by decide +kernel) rfl (fun h => by cases h) hX (Nat.le_of_ble_eq_true rfl) rfl ?_
  obtain ⟨r0, r1, rc, rp⟩ := id gr
  obtain ⟨hC8, hP8, hW⟩ := id hA
  have n16 := (hW i (by omega)).1
  refine zr_aload_n dX10_isRelaxed_0 rfl ?_
  refine zr_iload_n dX10_isRelaxed_1 rfl ?_
  refine zr_callVi [] dX10_isRelaxed_2 vX10_155 (qX10_isNone hX (i := i) h0 h1 r0 (by omega) hi) h0 (by decide) (by decide) (by decide) rfl rfl (Nat.le_of_ble_eq_true rfl) (by decide) rfl (fun kr1 s_kr1 h_kr1 => ?_)
  obtain ⟨e_kr1, F_kr1, g0_kr1⟩ := h_kr1
  have kh2 : s_kr1.1 (y + 1) = .inl (0, 82, .inl g) := zFr.get F_kr1 (by omega) h1
  have kR3 : zWa y s_kr1 := zWa.fr hWa F_kr1 (by intro q h1 h2 h3; (try simp only [zIn, zJf] at h3); omega)
  have kR4 : zCy y s_kr1 := zCy.fr hC F_kr1 (by intro q h1 h2 h3; (try simp only [zIn, zJf] at h3); omega)
  have kF5 := zFr.tr zFr.rf (P := (fun q => q = y ∨ q = y + 7 ∨ q = y + 8)) F_kr1 (by intro q hq; omega)
  obtain rfl := e_kr1.symm
  refine zr_if_eq (tgt := 10) dX10_isRelaxed_5 (by decide) (fun c_5 => ?_) (fun c_5 => absurd (by decide) c_5)
  refine zr_aload_n dX10_isRelaxed_10 rfl ?_
  refine zr_iload_n dX10_isRelaxed_11 rfl ?_
  refine zr_pSi [.ref y] dX10_isRelaxed_12 vX10_138 (qX10_caseAt hX (i := i)) (by decide) (by decide) (by decide) rfl rfl (Nat.le_of_ble_eq_true rfl) rfl ?_
  refine zr_callVv [] dX10_isRelaxed_15 vX10_128 (qM_take hX (i := i) g0_kr1 kh2 gr hA (by omega) kR3) g0_kr1 (by decide) (by decide) (by decide) rfl rfl (Nat.le_of_ble_eq_true rfl) (by decide) rfl (fun s_kr6 h_kr6 => ?_)
  obtain ⟨F_kr6, g0_kr6, r0_kr6⟩ := h_kr6
  have kh7 : s_kr6.1 (y + 1) = .inl (0, 82, .inl g) := zFr.get F_kr6 (by omega) kh2
  have kR8 : zCy y s_kr6 := zCy.fr kR4 F_kr6 (by intro q h1 h2 h3; (try simp only [zIn, zJf] at h3); omega)
  have kF9 := zFr.tr kF5 F_kr6 (by intro q hq; omega)
  refine zr_aload_n dX10_isRelaxed_18 rfl ?_
  refine zr_aload_n dX10_isRelaxed_19 rfl ?_
  refine zr_callVi [.ref y] dX10_isRelaxed_20 vX10_168 (qX10_relaxes hX (L := (zWd A i)) g0_kr6 (by rw [zWd_l]; rfl) r0_kr6 (hA.wd (by omega)) (by rw [zWd_l]; omega) kR8) g0_kr6 (by decide) (by decide) (by decide) rfl rfl (Nat.le_of_ble_eq_true rfl) (by decide) rfl (fun r1 s1 h_ => ?_)
  obtain ⟨m1, c1, u1, v1, W1, F1, g0, kC1, kW1, h2⟩ := h_
  have kF1 := zFr.tr kF9 F1 (by intro q hq; omega)
  have kg1 := zFr.get F1 (by omega) kh7
  obtain ⟨q1, rfl, hO1, rfl, rfl, w4, q20⟩ := h2.resolve_left (fun q => by rw [hO] at q; cases q.2)
  obtain rfl : q = (q1, W1) := Option.some.inj (hO.symm.trans hO1)
  refine zr_if_eq (tgt := 30) dX10_isRelaxed_23 (by decide) (fun c_23 => absurd c_23 (by decide)) (fun c_23 => ?_)
  refine zr_iconst (v := 0) dX10_isRelaxed_26 (by decide) ?_
  refine zr_goto (tgt := 31) dX10_isRelaxed_27 (by decide) ?_
  refine zr_callVi [] dX10_isRelaxed_31 vX10_135 (qX10_fails hX (p := 0) g0) g0 (by decide) (by decide) (by decide) rfl rfl (Nat.le_of_ble_eq_true rfl) (by decide) rfl (fun kr10 s_kr10 h_kr10 => ?_)
  obtain ⟨e_kr10, F_kr10, g0_kr10⟩ := h_kr10
  have kh11 : s_kr10.1 (y + 1) = .inl (0, 82, .inl g) := zFr.get F_kr10 (by omega) kg1
  have kR12 : zWk y W1 s_kr10 := zWk.fr kW1 F_kr10 (by intro q h1 h2 h3; (try simp only [zIn, zJf] at h3); omega)
  have kR13 : zCy y s_kr10 := zCy.fr kC1 F_kr10 (by intro q h1 h2 h3; (try simp only [zIn, zJf] at h3); omega)
  have kF14 := zFr.tr kF1 F_kr10 (by intro q hq; omega)
  replace e_kr10 := e_kr10.trans (if_pos (by decide) : (_ : Int32) = 0)
  obtain rfl := e_kr10.symm
  refine zr_if_ne (tgt := 41) dX10_isRelaxed_34 (by decide) (fun c_34 => absurd (by decide) c_34) (fun c_34 => ?_)
  refine zr_iconst (v := 1) dX10_isRelaxed_37 (by decide) ?_
  refine zr_goto (tgt := 42) dX10_isRelaxed_38 (by decide) ?_
  exact zr_ireturn dX10_isRelaxed_42 rfl (rfl) (⟨_, rfl, rfl, _, _, kF14, g0_kr10, kR12, kR13, q20, w4⟩)

set_option maxHeartbeats 400000 in
set_option maxRecDepth 100000 in
theorem qX10_isRelaxedN {X : zX} (hX : X.1.stackTraces = false) {σ : zS} {y : Nat} {F : Nat → Int32} {g : Nat → Int32} {A : zDk} {i : Nat} (h0 : σ.1 y = zmO y F) (h1 : σ.1 (y + 1) = .inl (0, 82, .inl g)) (gr : zGr A g) (hA : zDw A) (hi : i < kC A) (hO : (zRn 2000 [] (zWd A i)) = none) (hWa : zWa y σ) (hC : zCy y σ) : zMet X mX10_isRelaxed yX10_isRelaxed 3 0 0 [.ref y, .int (nI i)] σ (zI (fun y_ s => y_ = 0 ∧ ∃ m c u v, zFr σ s (fun q => q = y ∨ q = y + 7 ∨ q = y + 8) ∧ s.1 y = zmO y (upd (upd (upd (upd (upd (upd F 7 0) 8 2) 19 m) 20 c) 21 u) 22 v) ∧ zWa y s ∧ zCy y s)) := by
  refine zMet_of (ls := [some (.ref y), some (.int (nI i))]) rfl (by decide +kernel) rfl (fun h => by cases h) hX (Nat.le_of_ble_eq_true rfl) rfl ?_
  obtain ⟨r0, r1, rc, rp⟩ := id gr
  obtain ⟨hC8, hP8, hW⟩ := id hA
  have n16 := (hW i (by omega)).1
  refine zr_aload_n dX10_isRelaxed_0 rfl ?_
  refine zr_iload_n dX10_isRelaxed_1 rfl ?_
  refine zr_callVi [] dX10_isRelaxed_2 vX10_155 (qX10_isNone hX (i := i) h0 h1 r0 (by omega) hi) h0 (by decide) (by decide) (by decide) rfl rfl (Nat.le_of_ble_eq_true rfl) (by decide) rfl (fun kr1 s_kr1 h_kr1 => ?_)
  obtain ⟨e_kr1, F_kr1, g0_kr1⟩ := h_kr1
  have kh2 : s_kr1.1 (y + 1) = .inl (0, 82, .inl g) := zFr.get F_kr1 (by omega) h1
  have kR3 : zWa y s_kr1 := zWa.fr hWa F_kr1 (by intro q h1 h2 h3; (try simp only [zIn, zJf] at h3); omega)
  have kR4 : zCy y s_kr1 := zCy.fr hC F_kr1 (by intro q h1 h2 h3; (try simp only [zIn, zJf] at h3); omega)
  have kF5 := zFr.tr zFr.rf (P := (fun q => q = y ∨ q = y + 7 ∨ q = y + 8)) F_kr1 (by intro q hq; omega)
  obtain rfl := e_kr1.symm
  refine zr_if_eq (tgt := 10) dX10_isRelaxed_5 (by decide) (fun c_5 => ?_) (fun c_5 => absurd (by decide) c_5)
  refine zr_aload_n dX10_isRelaxed_10 rfl ?_
  refine zr_iload_n dX10_isRelaxed_11 rfl ?_
  refine zr_pSi [.ref y] dX10_isRelaxed_12 vX10_138 (qX10_caseAt hX (i := i)) (by decide) (by decide) (by decide) rfl rfl (Nat.le_of_ble_eq_true rfl) rfl ?_
  refine zr_callVv [] dX10_isRelaxed_15 vX10_128 (qM_take hX (i := i) g0_kr1 kh2 gr hA (by omega) kR3) g0_kr1 (by decide) (by decide) (by decide) rfl rfl (Nat.le_of_ble_eq_true rfl) (by decide) rfl (fun s_kr6 h_kr6 => ?_)
  obtain ⟨F_kr6, g0_kr6, r0_kr6⟩ := h_kr6
  have kh7 : s_kr6.1 (y + 1) = .inl (0, 82, .inl g) := zFr.get F_kr6 (by omega) kh2
  have kR8 : zCy y s_kr6 := zCy.fr kR4 F_kr6 (by intro q h1 h2 h3; (try simp only [zIn, zJf] at h3); omega)
  have kF9 := zFr.tr kF5 F_kr6 (by intro q hq; omega)
  refine zr_aload_n dX10_isRelaxed_18 rfl ?_
  refine zr_aload_n dX10_isRelaxed_19 rfl ?_
  refine zr_callVi [.ref y] dX10_isRelaxed_20 vX10_168 (qX10_relaxes hX (L := (zWd A i)) g0_kr6 (by rw [zWd_l]; rfl) r0_kr6 (hA.wd (by omega)) (by rw [zWd_l]; omega) kR8) g0_kr6 (by decide) (by decide) (by decide) rfl rfl (Nat.le_of_ble_eq_true rfl) (by decide) rfl (fun r1 s1 h_ => ?_)
  obtain ⟨m1, c1, u1, v1, W1, F1, g0, kC1, kW1, h2⟩ := h_
  have kF1 := zFr.tr kF9 F1 (by intro q hq; omega)
  have kg1 := zFr.get F1 (by omega) kh7
  obtain ⟨rfl, -⟩ := h2.resolve_right (fun q => by obtain ⟨q1, -, hO1, -⟩ := q; rw [hO] at hO1; cases hO1)
  refine zr_if_eq (tgt := 30) dX10_isRelaxed_23 (by decide) (fun c_23 => ?_) (fun c_23 => absurd (by decide) c_23)
  refine zr_iconst (v := 2) dX10_isRelaxed_30 (by decide) ?_
  refine zr_callVi [] dX10_isRelaxed_31 vX10_135 (qX10_fails hX (p := 2) g0) g0 (by decide) (by decide) (by decide) rfl rfl (Nat.le_of_ble_eq_true rfl) (by decide) rfl (fun kr10 s_kr10 h_kr10 => ?_)
  obtain ⟨e_kr10, F_kr10, g0_kr10⟩ := h_kr10
  have kh11 : s_kr10.1 (y + 1) = .inl (0, 82, .inl g) := zFr.get F_kr10 (by omega) kg1
  have kR12 : zWk y W1 s_kr10 := zWk.fr kW1 F_kr10 (by intro q h1 h2 h3; (try simp only [zIn, zJf] at h3); omega)
  have kR13 : zCy y s_kr10 := zCy.fr kC1 F_kr10 (by intro q h1 h2 h3; (try simp only [zIn, zJf] at h3); omega)
  have kF14 := zFr.tr kF1 F_kr10 (by intro q hq; omega)
  replace e_kr10 := e_kr10.trans (if_neg (by decide) : (_ : Int32) = 1)
  obtain rfl := e_kr10.symm
  refine zr_if_ne (tgt := 41) dX10_isRelaxed_34 (by decide) (fun c_34 => ?_) (fun c_34 => absurd c_34 (by decide))
  refine zr_iconst (v := 0) dX10_isRelaxed_41 (by decide) ?_
  exact zr_ireturn dX10_isRelaxed_42 rfl (rfl) (⟨_, rfl, rfl, _, _, _, _, kF14, g0_kr10, (kR12).wa, kR13⟩)

set_option maxHeartbeats 400000 in
set_option maxRecDepth 100000 in
theorem qX10_isDivided {X : zX} (hX : X.1.stackTraces = false) {σ : zS} {y : Nat} {F : Nat → Int32} {g : Nat → Int32} {A : zDk} {i j : Nat} {q : Nat × List Int32} (h0 : σ.1 y = zmO y F) (h1 : σ.1 (y + 1) = .inl (0, 82, .inl g)) (gr : zGr A g) (hA : zDw A) (hi : i < kC A) (hj : j < kC A) (hO : (zRn 2000 [] (zWq A i j)) = some q) (hWa : zWa y σ) (hC : zCy y σ) : zMet X mX10_isDivided yX10_isDivided 3 0 0 [.ref y, .int (nI i), .int (nI j)] σ (zI (fun y_ s => y_ = 1 ∧ ∃ u v, zFr σ s (fun q => q = y ∨ q = y + 7 ∨ q = y + 8) ∧ s.1 y = zmO y (upd (upd (upd (upd (upd (upd F 7 0) 8 0) 19 (nI q.2.length)) 20 (nI (2000 - q.1))) 21 u) 22 v) ∧ zWk y q.2 s ∧ zCy y s ∧ q.1 ≤ 2000 ∧ q.2.length ≤ 400)) := by
  refine zMet_of (ls := [some (.ref y), some (.int (nI i)), some (.int (nI j))]) rfl (by decide +kernel) rfl (fun h => by cases h) hX (Nat.le_of_ble_eq_true rfl) rfl ?_
  obtain ⟨r0, r1, rc, rp⟩ := id gr
  obtain ⟨hC8, hP8, hW⟩ := id hA
  have n16 := (hW i (by omega)).1
  refine zr_aload_n dX10_isDivided_0 rfl ?_
  refine zr_aload_n dX10_isDivided_1 rfl ?_
  refine zr_iload_n dX10_isDivided_2 rfl ?_
  refine zr_pVi [.ref y] dX10_isDivided_3 vX10_131 (qX10_isCase hX (p := nI i) h0 h1 r0 (by omega)) h0 (by decide) (by decide) (by decide) rfl rfl (Nat.le_of_ble_eq_true rfl) (by decide) rfl ?_
  refine zr_if_eq (tgt := 21) dX10_isDivided_6 (by decide) (fun c_6 => absurd c_6 (fun q => ite10.mp q (isin_y hi (by omega)))) (fun c_6 => ?_)
  refine zr_aload_n dX10_isDivided_9 rfl ?_
  refine zr_iload_n dX10_isDivided_10 rfl ?_
  refine zr_pVi [.ref y] dX10_isDivided_11 vX10_131 (qX10_isCase hX (p := nI j) h0 h1 r0 (by omega)) h0 (by decide) (by decide) (by decide) rfl rfl (Nat.le_of_ble_eq_true rfl) (by decide) rfl ?_
  refine zr_if_eq (tgt := 21) dX10_isDivided_14 (by decide) (fun c_14 => absurd c_14 (fun q => ite10.mp q (isin_y hj (by omega)))) (fun c_14 => ?_)
  refine zr_iconst (v := 0) dX10_isDivided_17 (by decide) ?_
  refine zr_goto (tgt := 22) dX10_isDivided_18 (by decide) ?_
  refine zr_callVi [] dX10_isDivided_22 vX10_135 (qX10_fails hX (p := 0) h0) h0 (by decide) (by decide) (by decide) rfl rfl (Nat.le_of_ble_eq_true rfl) (by decide) rfl (fun kr1 s_kr1 h_kr1 => ?_)
  obtain ⟨e_kr1, F_kr1, g0_kr1⟩ := h_kr1
  have kh2 : s_kr1.1 (y + 1) = .inl (0, 82, .inl g) := zFr.get F_kr1 (by omega) h1
  have kR3 : zWa y s_kr1 := zWa.fr hWa F_kr1 (by intro q h1 h2 h3; (try simp only [zIn, zJf] at h3); omega)
  have kR4 : zCy y s_kr1 := zCy.fr hC F_kr1 (by intro q h1 h2 h3; (try simp only [zIn, zJf] at h3); omega)
  have kF5 := zFr.tr zFr.rf (P := (fun q => q = y ∨ q = y + 7 ∨ q = y + 8)) F_kr1 (by intro q hq; omega)
  replace e_kr1 := e_kr1.trans (if_pos (by decide) : (_ : Int32) = 0)
  obtain rfl := e_kr1.symm
  refine zr_if_eq (tgt := 30) dX10_isDivided_25 (by decide) (fun c_25 => ?_) (fun c_25 => absurd (by decide) c_25)
  refine zr_aload_n dX10_isDivided_30 rfl ?_
  refine zr_iload_n dX10_isDivided_31 rfl ?_
  refine zr_pSi [.ref y] dX10_isDivided_32 vX10_138 (qX10_caseAt hX (i := i)) (by decide) (by decide) (by decide) rfl rfl (Nat.le_of_ble_eq_true rfl) rfl ?_
  refine zr_iload_n dX10_isDivided_35 rfl ?_
  refine zr_pSi [.int (nI (2 + 5 * i)), .ref y] dX10_isDivided_36 vX10_138 (qX10_caseAt hX (i := j)) (by decide) (by decide) (by decide) rfl rfl (Nat.le_of_ble_eq_true rfl) rfl ?_
  refine zr_callVv [] dX10_isDivided_39 vX10_186 (qM_takeQ hX (i := i) (j := j) g0_kr1 kh2 gr hA (by omega) (by omega) kR3) g0_kr1 (by decide) (by decide) (by decide) rfl rfl (Nat.le_of_ble_eq_true rfl) (by decide) rfl (fun s_kr6 h_kr6 => ?_)
  obtain ⟨F_kr6, g0_kr6, r0_kr6⟩ := h_kr6
  have kh7 : s_kr6.1 (y + 1) = .inl (0, 82, .inl g) := zFr.get F_kr6 (by omega) kh2
  have kR8 : zCy y s_kr6 := zCy.fr kR4 F_kr6 (by intro q h1 h2 h3; (try simp only [zIn, zJf] at h3); omega)
  have kF9 := zFr.tr kF5 F_kr6 (by intro q hq; omega)
  refine zr_aload_n dX10_isDivided_42 rfl ?_
  refine zr_aload_n dX10_isDivided_43 rfl ?_
  refine zr_callVi [.ref y] dX10_isDivided_44 vX10_168 (qX10_relaxes hX (L := (zWq A i j)) g0_kr6 rfl r0_kr6 (hA.wq (by omega) (by omega)) (by have := zWq_len hA (i := i) (j := j) (by omega) (by omega); omega) kR8) g0_kr6 (by decide) (by decide) (by decide) rfl rfl (Nat.le_of_ble_eq_true rfl) (by decide) rfl (fun r1 s1 h_ => ?_)
  obtain ⟨m1, c1, u1, v1, W1, F1, g0, kC1, kW1, h2⟩ := h_
  have kF1 := zFr.tr kF9 F1 (by intro q hq; omega)
  have kg1 := zFr.get F1 (by omega) kh7
  obtain ⟨q1, rfl, hO1, rfl, rfl, w4, q20⟩ := h2.resolve_left (fun q => by rw [hO] at q; cases q.2)
  obtain rfl : q = (q1, W1) := Option.some.inj (hO.symm.trans hO1)
  refine zr_if_eq (tgt := 54) dX10_isDivided_47 (by decide) (fun c_47 => absurd c_47 (by decide)) (fun c_47 => ?_)
  refine zr_iconst (v := 0) dX10_isDivided_50 (by decide) ?_
  refine zr_goto (tgt := 55) dX10_isDivided_51 (by decide) ?_
  refine zr_callVi [] dX10_isDivided_55 vX10_135 (qX10_fails hX (p := 0) g0) g0 (by decide) (by decide) (by decide) rfl rfl (Nat.le_of_ble_eq_true rfl) (by decide) rfl (fun kr10 s_kr10 h_kr10 => ?_)
  obtain ⟨e_kr10, F_kr10, g0_kr10⟩ := h_kr10
  have kh11 : s_kr10.1 (y + 1) = .inl (0, 82, .inl g) := zFr.get F_kr10 (by omega) kg1
  have kR12 : zWk y W1 s_kr10 := zWk.fr kW1 F_kr10 (by intro q h1 h2 h3; (try simp only [zIn, zJf] at h3); omega)
  have kR13 : zCy y s_kr10 := zCy.fr kC1 F_kr10 (by intro q h1 h2 h3; (try simp only [zIn, zJf] at h3); omega)
  have kF14 := zFr.tr kF1 F_kr10 (by intro q hq; omega)
  replace e_kr10 := e_kr10.trans (if_pos (by decide) : (_ : Int32) = 0)
  obtain rfl := e_kr10.symm
  refine zr_if_ne (tgt := 65) dX10_isDivided_58 (by decide) (fun c_58 => absurd (by decide) c_58) (fun c_58 => ?_)
  refine zr_iconst (v := 1) dX10_isDivided_61 (by decide) ?_
  refine zr_goto (tgt := 66) dX10_isDivided_62 (by decide) ?_
  exact zr_ireturn dX10_isDivided_66 rfl (rfl) (⟨_, rfl, rfl, _, _, kF14, g0_kr10, kR12, kR13, q20, w4⟩)

set_option maxHeartbeats 400000 in
set_option maxRecDepth 100000 in
theorem qX10_isDividedN {X : zX} (hX : X.1.stackTraces = false) {σ : zS} {y : Nat} {F : Nat → Int32} {g : Nat → Int32} {A : zDk} {i j : Nat} (h0 : σ.1 y = zmO y F) (h1 : σ.1 (y + 1) = .inl (0, 82, .inl g)) (gr : zGr A g) (hA : zDw A) (hi : i < kC A) (hj : j < kC A) (hO : (zRn 2000 [] (zWq A i j)) = none) (hWa : zWa y σ) (hC : zCy y σ) : zMet X mX10_isDivided yX10_isDivided 3 0 0 [.ref y, .int (nI i), .int (nI j)] σ (zI (fun y_ s => y_ = 0 ∧ ∃ m c u v, zFr σ s (fun q => q = y ∨ q = y + 7 ∨ q = y + 8) ∧ s.1 y = zmO y (upd (upd (upd (upd (upd (upd F 7 0) 8 2) 19 m) 20 c) 21 u) 22 v) ∧ zWa y s ∧ zCy y s)) := by
  refine zMet_of (ls := [some (.ref y), some (.int (nI i)), some (.int (nI j))]) rfl (by decide +kernel) rfl (fun h => by cases h) hX (Nat.le_of_ble_eq_true rfl) rfl ?_
  obtain ⟨r0, r1, rc, rp⟩ := id gr
  obtain ⟨hC8, hP8, hW⟩ := id hA
  have n16 := (hW i (by omega)).1
  refine zr_aload_n dX10_isDivided_0 rfl ?_
  refine zr_aload_n dX10_isDivided_1 rfl ?_
  refine zr_iload_n dX10_isDivided_2 rfl ?_
  refine zr_pVi [.ref y] dX10_isDivided_3 vX10_131 (qX10_isCase hX (p := nI i) h0 h1 r0 (by omega)) h0 (by decide) (by decide) (by decide) rfl rfl (Nat.le_of_ble_eq_true rfl) (by decide) rfl ?_
  refine zr_if_eq (tgt := 21) dX10_isDivided_6 (by decide) (fun c_6 => absurd c_6 (fun q => ite10.mp q (isin_y hi (by omega)))) (fun c_6 => ?_)
  refine zr_aload_n dX10_isDivided_9 rfl ?_
  refine zr_iload_n dX10_isDivided_10 rfl ?_
  refine zr_pVi [.ref y] dX10_isDivided_11 vX10_131 (qX10_isCase hX (p := nI j) h0 h1 r0 (by omega)) h0 (by decide) (by decide) (by decide) rfl rfl (Nat.le_of_ble_eq_true rfl) (by decide) rfl ?_
  refine zr_if_eq (tgt := 21) dX10_isDivided_14 (by decide) (fun c_14 => absurd c_14 (fun q => ite10.mp q (isin_y hj (by omega)))) (fun c_14 => ?_)
  refine zr_iconst (v := 0) dX10_isDivided_17 (by decide) ?_
  refine zr_goto (tgt := 22) dX10_isDivided_18 (by decide) ?_
  refine zr_callVi [] dX10_isDivided_22 vX10_135 (qX10_fails hX (p := 0) h0) h0 (by decide) (by decide) (by decide) rfl rfl (Nat.le_of_ble_eq_true rfl) (by decide) rfl (fun kr1 s_kr1 h_kr1 => ?_)
  obtain ⟨e_kr1, F_kr1, g0_kr1⟩ := h_kr1
  have kh2 : s_kr1.1 (y + 1) = .inl (0, 82, .inl g) := zFr.get F_kr1 (by omega) h1
  have kR3 : zWa y s_kr1 := zWa.fr hWa F_kr1 (by intro q h1 h2 h3; (try simp only [zIn, zJf] at h3); omega)
  have kR4 : zCy y s_kr1 := zCy.fr hC F_kr1 (by intro q h1 h2 h3; (try simp only [zIn, zJf] at h3); omega)
  have kF5 := zFr.tr zFr.rf (P := (fun q => q = y ∨ q = y + 7 ∨ q = y + 8)) F_kr1 (by intro q hq; omega)
  replace e_kr1 := e_kr1.trans (if_pos (by decide) : (_ : Int32) = 0)
  obtain rfl := e_kr1.symm
  refine zr_if_eq (tgt := 30) dX10_isDivided_25 (by decide) (fun c_25 => ?_) (fun c_25 => absurd (by decide) c_25)
  refine zr_aload_n dX10_isDivided_30 rfl ?_
  refine zr_iload_n dX10_isDivided_31 rfl ?_
  refine zr_pSi [.ref y] dX10_isDivided_32 vX10_138 (qX10_caseAt hX (i := i)) (by decide) (by decide) (by decide) rfl rfl (Nat.le_of_ble_eq_true rfl) rfl ?_
  refine zr_iload_n dX10_isDivided_35 rfl ?_
  refine zr_pSi [.int (nI (2 + 5 * i)), .ref y] dX10_isDivided_36 vX10_138 (qX10_caseAt hX (i := j)) (by decide) (by decide) (by decide) rfl rfl (Nat.le_of_ble_eq_true rfl) rfl ?_
  refine zr_callVv [] dX10_isDivided_39 vX10_186 (qM_takeQ hX (i := i) (j := j) g0_kr1 kh2 gr hA (by omega) (by omega) kR3) g0_kr1 (by decide) (by decide) (by decide) rfl rfl (Nat.le_of_ble_eq_true rfl) (by decide) rfl (fun s_kr6 h_kr6 => ?_)
  obtain ⟨F_kr6, g0_kr6, r0_kr6⟩ := h_kr6
  have kh7 : s_kr6.1 (y + 1) = .inl (0, 82, .inl g) := zFr.get F_kr6 (by omega) kh2
  have kR8 : zCy y s_kr6 := zCy.fr kR4 F_kr6 (by intro q h1 h2 h3; (try simp only [zIn, zJf] at h3); omega)
  have kF9 := zFr.tr kF5 F_kr6 (by intro q hq; omega)
  refine zr_aload_n dX10_isDivided_42 rfl ?_
  refine zr_aload_n dX10_isDivided_43 rfl ?_
  refine zr_callVi [.ref y] dX10_isDivided_44 vX10_168 (qX10_relaxes hX (L := (zWq A i j)) g0_kr6 rfl r0_kr6 (hA.wq (by omega) (by omega)) (by have := zWq_len hA (i := i) (j := j) (by omega) (by omega); omega) kR8) g0_kr6 (by decide) (by decide) (by decide) rfl rfl (Nat.le_of_ble_eq_true rfl) (by decide) rfl (fun r1 s1 h_ => ?_)
  obtain ⟨m1, c1, u1, v1, W1, F1, g0, kC1, kW1, h2⟩ := h_
  have kF1 := zFr.tr kF9 F1 (by intro q hq; omega)
  have kg1 := zFr.get F1 (by omega) kh7
  obtain ⟨rfl, -⟩ := h2.resolve_right (fun q => by obtain ⟨q1, -, hO1, -⟩ := q; rw [hO] at hO1; cases hO1)
  refine zr_if_eq (tgt := 54) dX10_isDivided_47 (by decide) (fun c_47 => ?_) (fun c_47 => absurd (by decide) c_47)
  refine zr_iconst (v := 2) dX10_isDivided_54 (by decide) ?_
  refine zr_callVi [] dX10_isDivided_55 vX10_135 (qX10_fails hX (p := 2) g0) g0 (by decide) (by decide) (by decide) rfl rfl (Nat.le_of_ble_eq_true rfl) (by decide) rfl (fun kr10 s_kr10 h_kr10 => ?_)
  obtain ⟨e_kr10, F_kr10, g0_kr10⟩ := h_kr10
  have kh11 : s_kr10.1 (y + 1) = .inl (0, 82, .inl g) := zFr.get F_kr10 (by omega) kg1
  have kR12 : zWk y W1 s_kr10 := zWk.fr kW1 F_kr10 (by intro q h1 h2 h3; (try simp only [zIn, zJf] at h3); omega)
  have kR13 : zCy y s_kr10 := zCy.fr kC1 F_kr10 (by intro q h1 h2 h3; (try simp only [zIn, zJf] at h3); omega)
  have kF14 := zFr.tr kF1 F_kr10 (by intro q hq; omega)
  replace e_kr10 := e_kr10.trans (if_neg (by decide) : (_ : Int32) = 1)
  obtain rfl := e_kr10.symm
  refine zr_if_ne (tgt := 65) dX10_isDivided_58 (by decide) (fun c_58 => ?_) (fun c_58 => absurd c_58 (by decide))
  refine zr_iconst (v := 0) dX10_isDivided_65 (by decide) ?_
  exact zr_ireturn dX10_isDivided_66 rfl (rfl) (⟨_, rfl, rfl, _, _, _, _, kF14, g0_kr10, (kR12).wa, kR13⟩)

set_option maxHeartbeats 400000 in
set_option maxRecDepth 100000 in
theorem qX10_isRelaxedX {X : zX} (hX : X.1.stackTraces = false) {σ : zS} {y : Nat} {F : Nat → Int32} {g : Nat → Int32} {A : zDk} {p : Int32} (h0 : σ.1 y = zmO y F) (h1 : σ.1 (y + 1) = .inl (0, 82, .inl g)) (gr : zGr A g) (hA : zDw A) (hno : ¬ (¬ p < 0 ∧ p < nI (kC A))) : zMet X mX10_isRelaxed yX10_isRelaxed 3 0 0 [.ref y, .int p] σ (zI (fun y_ s => y_ = 0 ∧ zFr σ s (fun q => q = y) ∧ s.1 y = zmO y (upd (upd F 7 0) 8 1))) := by
  refine zMet_of (ls := [some (.ref y), some (.int p)]) rfl (by decide +kernel) rfl (fun h => by cases h) hX (Nat.le_of_ble_eq_true rfl) rfl ?_
  obtain ⟨r0, r1, rc, rp⟩ := id gr
  obtain ⟨hC8, hP8, hW⟩ := id hA
  refine zr_aload_n dX10_isRelaxed_0 rfl ?_
  refine zr_iload_n dX10_isRelaxed_1 rfl ?_
  refine zr_callVi [] dX10_isRelaxed_2 vX10_155 (qX10_isNoneX hX h0 h1 r0 (by omega) hno) h0 (by decide) (by decide) (by decide) rfl rfl (Nat.le_of_ble_eq_true rfl) (by decide) rfl (fun kr1 s_kr1 h_kr1 => ?_)
  obtain ⟨e_kr1, F_kr1, g0_kr1⟩ := h_kr1
  have kh2 : s_kr1.1 (y + 1) = .inl (0, 82, .inl g) := zFr.get F_kr1 (by omega) h1
  have kF3 := zFr.tr zFr.rf (P := (fun q => q = y)) F_kr1 (by intro q hq; exact hq)
  obtain rfl := e_kr1.symm
  refine zr_if_eq (tgt := 10) dX10_isRelaxed_5 (by decide) (fun c_5 => absurd c_5 (by decide)) (fun c_5 => ?_)
  refine zr_iconst (v := 0) dX10_isRelaxed_8 (by decide) ?_
  exact zr_ireturn dX10_isRelaxed_9 rfl (rfl) (⟨_, rfl, rfl, kF3, g0_kr1⟩)

set_option maxHeartbeats 400000 in
set_option maxRecDepth 100000 in
theorem qX10_isDividedX {X : zX} (hX : X.1.stackTraces = false) {σ : zS} {y : Nat} {F : Nat → Int32} {g : Nat → Int32} {A : zDk} {p p2 : Int32} (h0 : σ.1 y = zmO y F) (h1 : σ.1 (y + 1) = .inl (0, 82, .inl g)) (gr : zGr A g) (hA : zDw A) (hno : ¬ (¬ p < 0 ∧ p < nI (kC A))) : zMet X mX10_isDivided yX10_isDivided 3 0 0 [.ref y, .int p, .int p2] σ (zI (fun y_ s => y_ = 0 ∧ zFr σ s (fun q => q = y) ∧ s.1 y = zmO y (upd (upd F 7 0) 8 1))) := by
  refine zMet_of (ls := [some (.ref y), some (.int p), some (.int p2)]) rfl (by decide +kernel) rfl (fun h => by cases h) hX (Nat.le_of_ble_eq_true rfl) rfl ?_
  obtain ⟨r0, r1, rc, rp⟩ := id gr
  obtain ⟨hC8, hP8, hW⟩ := id hA
  refine zr_aload_n dX10_isDivided_0 rfl ?_
  refine zr_aload_n dX10_isDivided_1 rfl ?_
  refine zr_iload_n dX10_isDivided_2 rfl ?_
  refine zr_pVi [.ref y] dX10_isDivided_3 vX10_131 (qX10_isCase hX (p := p) h0 h1 r0 (by omega)) h0 (by decide) (by decide) (by decide) rfl rfl (Nat.le_of_ble_eq_true rfl) (by decide) rfl ?_
  refine zr_if_eq (tgt := 21) dX10_isDivided_6 (by decide) (fun c_6 => ?_) (fun c_6 => absurd (ite10.mpr hno) c_6)
  refine zr_iconst (v := 1) dX10_isDivided_21 (by decide) ?_
  refine zr_callVi [] dX10_isDivided_22 vX10_135 (qX10_fails hX (p := 1) h0) h0 (by decide) (by decide) (by decide) rfl rfl (Nat.le_of_ble_eq_true rfl) (by decide) rfl (fun kr1 s_kr1 h_kr1 => ?_)
  obtain ⟨e_kr1, F_kr1, g0_kr1⟩ := h_kr1
  have kh2 : s_kr1.1 (y + 1) = .inl (0, 82, .inl g) := zFr.get F_kr1 (by omega) h1
  have kF3 := zFr.tr zFr.rf (P := (fun q => q = y)) F_kr1 (by intro q hq; exact hq)
  replace e_kr1 := e_kr1.trans (if_neg (by decide) : (_ : Int32) = 1)
  obtain rfl := e_kr1.symm
  refine zr_if_eq (tgt := 30) dX10_isDivided_25 (by decide) (fun c_25 => absurd c_25 (by decide)) (fun c_25 => ?_)
  refine zr_iconst (v := 0) dX10_isDivided_28 (by decide) ?_
  exact zr_ireturn dX10_isDivided_29 rfl (rfl) (⟨_, rfl, rfl, kF3, g0_kr1⟩)

set_option maxHeartbeats 400000 in
set_option maxRecDepth 100000 in
theorem qX10_isDividedX2 {X : zX} (hX : X.1.stackTraces = false) {σ : zS} {y : Nat} {F : Nat → Int32} {g : Nat → Int32} {A : zDk} {i : Nat} {p : Int32} (h0 : σ.1 y = zmO y F) (h1 : σ.1 (y + 1) = .inl (0, 82, .inl g)) (gr : zGr A g) (hA : zDw A) (hi : i < kC A) (hno : ¬ (¬ p < 0 ∧ p < nI (kC A))) : zMet X mX10_isDivided yX10_isDivided 3 0 0 [.ref y, .int (nI i), .int p] σ (zI (fun y_ s => y_ = 0 ∧ zFr σ s (fun q => q = y) ∧ s.1 y = zmO y (upd (upd F 7 0) 8 1))) := by
  refine zMet_of (ls := [some (.ref y), some (.int (nI i)), some (.int p)]) rfl (by decide +kernel) rfl (fun h => by cases h) hX (Nat.le_of_ble_eq_true rfl) rfl ?_
  obtain ⟨r0, r1, rc, rp⟩ := id gr
  obtain ⟨hC8, hP8, hW⟩ := id hA
  refine zr_aload_n dX10_isDivided_0 rfl ?_
  refine zr_aload_n dX10_isDivided_1 rfl ?_
  refine zr_iload_n dX10_isDivided_2 rfl ?_
  refine zr_pVi [.ref y] dX10_isDivided_3 vX10_131 (qX10_isCase hX (p := nI i) h0 h1 r0 (by omega)) h0 (by decide) (by decide) (by decide) rfl rfl (Nat.le_of_ble_eq_true rfl) (by decide) rfl ?_
  refine zr_if_eq (tgt := 21) dX10_isDivided_6 (by decide) (fun c_6 => absurd c_6 (fun q => ite10.mp q (isin_y hi (by omega)))) (fun c_6 => ?_)
  refine zr_aload_n dX10_isDivided_9 rfl ?_
  refine zr_iload_n dX10_isDivided_10 rfl ?_
  refine zr_pVi [.ref y] dX10_isDivided_11 vX10_131 (qX10_isCase hX (p := p) h0 h1 r0 (by omega)) h0 (by decide) (by decide) (by decide) rfl rfl (Nat.le_of_ble_eq_true rfl) (by decide) rfl ?_
  refine zr_if_eq (tgt := 21) dX10_isDivided_14 (by decide) (fun c_14 => ?_) (fun c_14 => absurd (ite10.mpr hno) c_14)
  refine zr_iconst (v := 1) dX10_isDivided_21 (by decide) ?_
  refine zr_callVi [] dX10_isDivided_22 vX10_135 (qX10_fails hX (p := 1) h0) h0 (by decide) (by decide) (by decide) rfl rfl (Nat.le_of_ble_eq_true rfl) (by decide) rfl (fun kr1 s_kr1 h_kr1 => ?_)
  obtain ⟨e_kr1, F_kr1, g0_kr1⟩ := h_kr1
  have kh2 : s_kr1.1 (y + 1) = .inl (0, 82, .inl g) := zFr.get F_kr1 (by omega) h1
  have kF3 := zFr.tr zFr.rf (P := (fun q => q = y)) F_kr1 (by intro q hq; exact hq)
  replace e_kr1 := e_kr1.trans (if_neg (by decide) : (_ : Int32) = 1)
  obtain rfl := e_kr1.symm
  refine zr_if_eq (tgt := 30) dX10_isDivided_25 (by decide) (fun c_25 => absurd c_25 (by decide)) (fun c_25 => ?_)
  refine zr_iconst (v := 0) dX10_isDivided_28 (by decide) ?_
  exact zr_ireturn dX10_isDivided_29 rfl (rfl) (⟨_, rfl, rfl, kF3, g0_kr1⟩)

set_option maxHeartbeats 400000 in
set_option maxRecDepth 100000 in
theorem qX10_isUnknown {X : zX} (hX : X.1.stackTraces = false) {σ : zS} {y : Nat} {F : Nat → Int32} {g : Nat → Int32} {A : zDk} {i : Nat} (h0 : σ.1 y = zmO y F) (h1 : σ.1 (y + 1) = .inl (0, 82, .inl g)) (gr : zGr A g) (hA : zDw A) (hi : i < kP A) : zMet X mX10_isUnknown yX10_isUnknown 2 0 0 [.ref y, .int (nI i)] σ (zI (fun y_ s => y_ = 0 ∧ zFr σ s (fun q => q = y) ∧ s.1 y = zmO y (upd (upd F 7 0) 8 0))) := by
  refine zMet_of (ls := [some (.ref y), some (.int (nI i))]) rfl (by decide +kernel) rfl (fun h => by cases h) hX (Nat.le_of_ble_eq_true rfl) rfl ?_
  obtain ⟨r0, r1, rc, rp⟩ := id gr
  obtain ⟨hC8, hP8, hW⟩ := id hA
  refine zr_aload_n dX10_isUnknown_0 rfl ?_
  refine zr_iload_n dX10_isUnknown_1 rfl ?_
  refine zr_iconst (v := 0) dX10_isUnknown_2 (by decide) ?_
  refine zr_aload_n dX10_isUnknown_3 rfl ?_
  refine zr_getM (v := .ref (y + 1)) dX10_isUnknown_4 fX10_7 h0 rfl ?_
  refine zr_iconst (v := 1) dX10_isUnknown_7 (by decide) ?_
  refine zr_iaload dX10_isUnknown_8 h1 (vp_in_nI (n := 1) (by omega) (by omega)) ?_
  rw [show (1 : Int32).toNatClampNeg = 1 from by decide]
  refine zr_eqi (x' := nI (kP A)) (r1) ?_
  refine zr_iconst (v := 1) dX10_isUnknown_9 (by decide) ?_
  refine zr_isub dX10_isUnknown_10 ?_
  refine zr_pSi [.ref y] dX10_isUnknown_11 vX10_75 (qX10_in hX (v := nI i) (l := 0) (h := (nI (kP A) - 1))) (by decide) (by decide) (by decide) rfl rfl (Nat.le_of_ble_eq_true rfl) rfl ?_
  refine zr_eqi (x' := (if ¬ nI i < 0 ∧ nI i < nI (kP A) then 1 else 0)) (isin_if (by omega)) ?_
  refine zr_if_eq (tgt := 21) dX10_isUnknown_14 (by decide) (fun c_14 => absurd c_14 (fun q => ite10.mp q (isin_y hi (by omega)))) (fun c_14 => ?_)
  refine zr_iconst (v := 0) dX10_isUnknown_17 (by decide) ?_
  refine zr_goto (tgt := 22) dX10_isUnknown_18 (by decide) ?_
  refine zr_callVi [] dX10_isUnknown_22 vX10_135 (qX10_fails hX (p := 0) h0) h0 (by decide) (by decide) (by decide) rfl rfl (Nat.le_of_ble_eq_true rfl) (by decide) rfl (fun kr1 s_kr1 h_kr1 => ?_)
  obtain ⟨e_kr1, F_kr1, g0_kr1⟩ := h_kr1
  have kh2 : s_kr1.1 (y + 1) = .inl (0, 82, .inl g) := zFr.get F_kr1 (by omega) h1
  have kF3 := zFr.tr zFr.rf (P := (fun q => q = y)) F_kr1 (by intro q hq; exact hq)
  replace e_kr1 := e_kr1.trans (if_pos (by decide) : (_ : Int32) = 0)
  obtain rfl := e_kr1.symm
  exact zr_ireturn dX10_isUnknown_25 rfl (rfl) (⟨_, rfl, rfl, kF3, g0_kr1⟩)

set_option maxHeartbeats 400000 in
set_option maxRecDepth 100000 in
theorem qX10_isUnknownX {X : zX} (hX : X.1.stackTraces = false) {σ : zS} {y : Nat} {F : Nat → Int32} {g : Nat → Int32} {A : zDk} {p : Int32} (h0 : σ.1 y = zmO y F) (h1 : σ.1 (y + 1) = .inl (0, 82, .inl g)) (gr : zGr A g) (hA : zDw A) (hno : ¬ (¬ p < 0 ∧ p < nI (kP A))) : zMet X mX10_isUnknown yX10_isUnknown 2 0 0 [.ref y, .int p] σ (zI (fun y_ s => y_ = 1 ∧ zFr σ s (fun q => q = y) ∧ s.1 y = zmO y (upd (upd F 7 0) 8 1))) := by
  refine zMet_of (ls := [some (.ref y), some (.int p)]) rfl (by decide +kernel) rfl (fun h => by cases h) hX (Nat.le_of_ble_eq_true rfl) rfl ?_
  obtain ⟨r0, r1, rc, rp⟩ := id gr
  obtain ⟨hC8, hP8, hW⟩ := id hA
  refine zr_aload_n dX10_isUnknown_0 rfl ?_
  refine zr_iload_n dX10_isUnknown_1 rfl ?_
  refine zr_iconst (v := 0) dX10_isUnknown_2 (by decide) ?_
  refine zr_aload_n dX10_isUnknown_3 rfl ?_
  refine zr_getM (v := .ref (y + 1)) dX10_isUnknown_4 fX10_7 h0 rfl ?_
  refine zr_iconst (v := 1) dX10_isUnknown_7 (by decide) ?_
  refine zr_iaload dX10_isUnknown_8 h1 (vp_in_nI (n := 1) (by omega) (by omega)) ?_
  rw [show (1 : Int32).toNatClampNeg = 1 from by decide]
  refine zr_eqi (x' := nI (kP A)) (r1) ?_
  refine zr_iconst (v := 1) dX10_isUnknown_9 (by decide) ?_
  refine zr_isub dX10_isUnknown_10 ?_
  refine zr_pSi [.ref y] dX10_isUnknown_11 vX10_75 (qX10_in hX (v := p) (l := 0) (h := (nI (kP A) - 1))) (by decide) (by decide) (by decide) rfl rfl (Nat.le_of_ble_eq_true rfl) rfl ?_
  refine zr_eqi (x' := (if ¬ p < 0 ∧ p < nI (kP A) then 1 else 0)) (isin_if (by omega)) ?_
  refine zr_if_eq (tgt := 21) dX10_isUnknown_14 (by decide) (fun c_14 => ?_) (fun c_14 => absurd (ite10.mpr hno) c_14)
  refine zr_iconst (v := 1) dX10_isUnknown_21 (by decide) ?_
  refine zr_callVi [] dX10_isUnknown_22 vX10_135 (qX10_fails hX (p := 1) h0) h0 (by decide) (by decide) (by decide) rfl rfl (Nat.le_of_ble_eq_true rfl) (by decide) rfl (fun kr1 s_kr1 h_kr1 => ?_)
  obtain ⟨e_kr1, F_kr1, g0_kr1⟩ := h_kr1
  have kh2 : s_kr1.1 (y + 1) = .inl (0, 82, .inl g) := zFr.get F_kr1 (by omega) h1
  have kF3 := zFr.tr zFr.rf (P := (fun q => q = y)) F_kr1 (by intro q hq; exact hq)
  replace e_kr1 := e_kr1.trans (if_neg (by decide) : (_ : Int32) = 1)
  obtain rfl := e_kr1.symm
  exact zr_ireturn dX10_isUnknown_25 rfl (rfl) (⟨_, rfl, rfl, kF3, g0_kr1⟩)

set_option maxHeartbeats 400000 in
set_option maxRecDepth 100000 in
theorem l_wi {X : zX} (hX : X.1.stackTraces = false) {σ : zS} {y : Nat} {F : Nat → Int32} {g : Nat → Int32} {A : zDk} {vl vh : Int32} (h0 : σ.1 y = zmO y F) (h1 : σ.1 (y + 1) = .inl (0, 82, .inl g)) (gr : zGr A g) (hA : zDw A) : ∀ (j i : Nat) (u : Nat), i + j = (kC A) → (u = zCt (fun t => decide (vl ≤ zvd A t ∧ zvd A t ≤ vh)) i) → zW X mX10_with 2 0 0 (zI (fun y_ s_ => y_ = nI (zCt (fun t => decide (vl ≤ zvd A t ∧ zvd A t ≤ vh)) (kC A)) ∧ s_ = σ)) 5 [some (.ref y), some (.int vl), some (.int vh), some (.int (nI u)), some (.int (nI i))] [] σ := by
  intro j
  induction j with
  | zero =>
    intro i u hi hu
    obtain ⟨r0, r1, rc, rp⟩ := id gr
    obtain ⟨hC8, hP8, hW⟩ := id hA
    refine zr_iload dX10_with_5 rfl ?_
    refine zr_aload_n dX10_with_7 rfl ?_
    refine zr_getM (v := .ref (y + 1)) dX10_with_8 fX10_7 h0 rfl ?_
    refine zr_iconst (v := 0) dX10_with_11 (by decide) ?_
    refine zr_iaload dX10_with_12 h1 (vp_in_nI (n := 0) (by omega) (by omega)) ?_
    rw [show (0 : Int32).toNatClampNeg = 0 from by decide]
    refine zr_eqi (x' := nI (kC A)) (r0) ?_
    refine zr_icmp_ge (tgt := 45) dX10_with_13 (by decide) (fun c_13 => ?_) (fun c_13 => absurd ((nI_leI (a := kC A) (b := i) (by omega) (by omega)).mpr (by omega)) c_13)
    refine zr_iload_n dX10_with_45 rfl ?_
    exact zr_ireturn dX10_with_46 rfl (rfl) (by have e1 : i = kC A := (by omega); rw [← e1]; exact ⟨_, rfl, congrArg nI hu, rfl⟩)
  | succ j ih =>
    intro i u hi hu
    obtain ⟨r0, r1, rc, rp⟩ := id gr
    obtain ⟨hC8, hP8, hW⟩ := id hA
    refine zr_iload dX10_with_5 rfl ?_
    refine zr_aload_n dX10_with_7 rfl ?_
    refine zr_getM (v := .ref (y + 1)) dX10_with_8 fX10_7 h0 rfl ?_
    refine zr_iconst (v := 0) dX10_with_11 (by decide) ?_
    refine zr_iaload dX10_with_12 h1 (vp_in_nI (n := 0) (by omega) (by omega)) ?_
    rw [show (0 : Int32).toNatClampNeg = 0 from by decide]
    refine zr_eqi (x' := nI (kC A)) (r0) ?_
    refine zr_icmp_ge (tgt := 45) dX10_with_13 (by decide) (fun c_13 => absurd c_13 (fun h => absurd ((nI_leI (a := kC A) (b := i) (by omega) (by omega)).mp h) (by omega))) (fun c_13 => ?_)
    refine zr_iload_n dX10_with_16 rfl ?_
    refine zr_aload_n dX10_with_17 rfl ?_
    refine zr_iload dX10_with_18 rfl ?_
    refine zr_iconst (v := 1) dX10_with_20 (by decide) ?_
    refine zr_pVi [.int (nI u)] dX10_with_21 vX10_149 (qX10_of hX (i := i) (k := 1) h0 h1 (by omega)) h0 (by decide) (by decide) (by decide) rfl rfl (Nat.le_of_ble_eq_true rfl) (by decide) rfl ?_
    refine zr_eqi (x' := (zvd A i)) ((rc i (by omega)).2.1) ?_
    refine zr_iload_n dX10_with_24 rfl ?_
    refine zr_iload_n dX10_with_25 rfl ?_
    refine zr_pSi [.int (nI u)] dX10_with_26 vX10_75 (qX10_in hX (v := (zvd A i)) (l := vl) (h := vh)) (by decide) (by decide) (by decide) rfl rfl (Nat.le_of_ble_eq_true rfl) rfl ?_
    refine zr_if_eq (tgt := 36) dX10_with_29 (by decide) (fun c_29 => ?_) (fun c_29 => ?_)
    · refine zr_iconst (v := 0) dX10_with_36 (by decide) ?_
      refine zr_iadd dX10_with_37 ?_
      refine zr_eqi (x' := nI (u + 0)) (nI_add u 0) ?_
      refine zr_istore_n (ls' := [some (.ref y), some (.int vl), some (.int vh), some (.int (nI (u + 0))), some (.int (nI i))]) dX10_with_38 rfl (by decide) rfl ?_
      refine zr_iinc (v := nI (i + 1)) (ls' := [some (.ref y), some (.int vl), some (.int vh), some (.int (nI (u + 0))), some (.int (nI (i + 1)))]) dX10_with_39 rfl (nI_1 _) (by decide) rfl ?_
      refine zr_goto (tgt := 5) dX10_with_42 (by decide) ?_
      exact ih (i + 1) _ (by omega) (by simp only [zCt]; rw [hu, if_neg (fun q => ite10.mp c_29 (of_decide_eq_true q))]; rfl)
    · refine zr_iconst (v := 1) dX10_with_32 (by decide) ?_
      refine zr_goto (tgt := 37) dX10_with_33 (by decide) ?_
      refine zr_iadd dX10_with_37 ?_
      refine zr_eqi (x' := nI (u + 1)) (nI_add u 1) ?_
      refine zr_istore_n (ls' := [some (.ref y), some (.int vl), some (.int vh), some (.int (nI (u + 1))), some (.int (nI i))]) dX10_with_38 rfl (by decide) rfl ?_
      refine zr_iinc (v := nI (i + 1)) (ls' := [some (.ref y), some (.int vl), some (.int vh), some (.int (nI (u + 1))), some (.int (nI (i + 1)))]) dX10_with_39 rfl (nI_1 _) (by decide) rfl ?_
      refine zr_goto (tgt := 5) dX10_with_42 (by decide) ?_
      exact ih (i + 1) _ (by omega) (by simp only [zCt]; rw [hu, if_pos (decide_eq_true (Classical.not_not.mp (fun q => c_29 (ite10.mpr q))))])

set_option maxHeartbeats 400000 in
set_option maxRecDepth 100000 in
theorem qX10_with {X : zX} (hX : X.1.stackTraces = false) {σ : zS} {y : Nat} {F : Nat → Int32} {g : Nat → Int32} {A : zDk} {vl vh : Int32} (h0 : σ.1 y = zmO y F) (h1 : σ.1 (y + 1) = .inl (0, 82, .inl g)) (gr : zGr A g) (hA : zDw A) : zMet X mX10_with yX10_with 2 0 0 [.ref y, .int vl, .int vh] σ (zI (fun y_ s_ => y_ = nI (zCt (fun t => decide (vl ≤ zvd A t ∧ zvd A t ≤ vh)) (kC A)) ∧ s_ = σ)) := by
  refine zMet_of (ls := [some (.ref y), some (.int vl), some (.int vh), none, none]) rfl (by decide +kernel) rfl (fun h => by cases h) hX (Nat.le_of_ble_eq_true rfl) rfl ?_
  refine zr_iconst (v := 0) dX10_with_0 (by decide) ?_
  refine zr_istore_n (ls' := [some (.ref y), some (.int vl), some (.int vh), some (.int 0), none]) dX10_with_1 rfl (by decide) rfl ?_
  refine zr_iconst (v := 0) dX10_with_2 (by decide) ?_
  refine zr_istore (ls' := [some (.ref y), some (.int vl), some (.int vh), some (.int 0), some (.int 0)]) dX10_with_3 (by decide) rfl ?_
  exact l_wi hX h0 h1 gr hA (kC A) 0 0 (by omega) rfl

