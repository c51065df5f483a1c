set_option maxHeartbeats 400000 in
set_option maxRecDepth 100000 in
theorem qX10_thrown {X : zX} (hX : X.1.stackTraces = false) {σ : zS} {y : Nat} {F : Nat → Int32} (h0 : σ.1 y = zmO y F)  : zMet X mX10_thrown yX10_thrown 0 0 0 [.ref y] σ (zI (fun y_ s_ => y_ = F 8 ∧ s_ = σ)) := by
  refine zMet_of (ls := [some (.ref y)]) rfl (by decide +kernel) rfl (fun h => by cases h) hX (Nat.le_of_ble_eq_true rfl) rfl ?_
  refine zr_aload_n dX10_thrown_0 rfl ?_
  refine zr_getM (v := .int (F 8)) dX10_thrown_1 fX10_49 h0 rfl ?_
  exact zr_ireturn dX10_thrown_4 rfl (rfl) (⟨_, rfl, rfl, rfl⟩)

set_option maxHeartbeats 400000 in
set_option maxRecDepth 100000 in
theorem qX10_fails {X : zX} (hX : X.1.stackTraces = false) {σ : zS} {y : Nat} {F : Nat → Int32} {p : Int32} (h0 : σ.1 y = zmO y F)  : zMet X mX10_fails yX10_fails 0 0 0 [.ref y, .int p] σ (zI (fun y_ s => y_ = (if p ≤ 0 then 0 else 1) ∧ zFr σ s (fun q => q = y) ∧ s.1 y = zmO y (upd (upd F 7 0) 8 p))) := by
  refine zMet_of (ls := [some (.ref y), some (.int p)]) rfl (by decide +kernel) rfl (fun h => by cases h) hX (Nat.le_of_ble_eq_true rfl) rfl ?_
  refine zr_aload_n dX10_fails_0 rfl ?_
  refine zr_iload_n dX10_fails_1 rfl ?_
  refine zr_putM (v := p) dX10_fails_2 pX10_49 h0 (rfl) (rfl) (Nat.le_of_ble_eq_true rfl) (zms_8 _ _ _) ?_
  refine zr_sig (fun ks1 e_ks1 => ?_)
  have kh2 : ks1.1 y = zmO y (upd F 8 p) := by rw [e_ks1]; exact zup_at _ _ _
  have kF3 := zFr.put zFr.rf (P := (fun q => q = y)) e_ks1 (by first | omega | simp)
  refine zr_aload_n dX10_fails_5 rfl ?_
  refine zr_iconst (v := 0) dX10_fails_6 (by decide) ?_
  refine zr_putM (v := 0) dX10_fails_7 pX10_52 kh2 (rfl) (rfl) (Nat.le_of_ble_eq_true rfl) (zms_7 _ _ _) ?_
  refine zr_sig (fun ks4 e_ks4 => ?_)
  have kh5 : ks4.1 y = zmO y (upd (upd F 7 0) 8 p) := by rw [e_ks4]; exact zup_at _ _ _
  have kF6 := zFr.put kF3 e_ks4 (by first | omega | simp)
  refine zr_iload_n dX10_fails_10 rfl ?_
  refine zr_if_le (tgt := 18) dX10_fails_11 (by decide) (fun c_11 => ?_) (fun c_11 => ?_)
  · refine zr_iconst (v := 0) dX10_fails_18 (by decide) ?_
    exact zr_ireturn dX10_fails_19 rfl (rfl) (⟨_, rfl, by first | rw [if_pos c_11] | rw [if_neg c_11], kF6, kh5⟩)
  · refine zr_iconst (v := 1) dX10_fails_14 (by decide) ?_
    refine zr_goto (tgt := 19) dX10_fails_15 (by decide) ?_
    exact zr_ireturn dX10_fails_19 rfl (rfl) (⟨_, rfl, by first | rw [if_pos c_11] | rw [if_neg c_11], kF6, kh5⟩)

set_option maxHeartbeats 400000 in
set_option maxRecDepth 100000 in
theorem qX10_denies {X : zX} (hX : X.1.stackTraces = false) {σ : zS} {y : Nat} {F : Nat → Int32} {p n q : Int32} (h0 : σ.1 y = zmO y F)  : zMet X mX10_denies yX10_denies 0 0 0 [.ref y, .int p, .int n, .int q] σ (zI (fun y_ s => y_ = 0 ∧ zFr σ s (fun q => q = y) ∧ s.1 y = zmO y (upd (upd (upd (upd (upd F 7 1) 8 p) 9 n) 10 q) 11 0))) := by
  refine zMet_of (ls := [some (.ref y), some (.int p), some (.int n), some (.int q)]) rfl (by decide +kernel) rfl (fun h => by cases h) hX (Nat.le_of_ble_eq_true rfl) rfl ?_
  refine zr_aload_n dX10_denies_0 rfl ?_
  refine zr_iload_n dX10_denies_1 rfl ?_
  refine zr_putM (v := p) dX10_denies_2 pX10_49 h0 (rfl) (rfl) (Nat.le_of_ble_eq_true rfl) (zms_8 _ _ _) ?_
  refine zr_sig (fun ks1 e_ks1 => ?_)
  have kh2 : ks1.1 y = zmO y (upd F 8 p) := by rw [e_ks1]; exact zup_at _ _ _
  have kF3 := zFr.put zFr.rf (P := (fun q => q = y)) e_ks1 (by first | omega | simp)
  refine zr_aload_n dX10_denies_5 rfl ?_
  refine zr_iconst (v := 1) dX10_denies_6 (by decide) ?_
  refine zr_putM (v := 1) dX10_denies_7 pX10_52 kh2 (rfl) (rfl) (Nat.le_of_ble_eq_true rfl) (zms_7 _ _ _) ?_
  refine zr_sig (fun ks4 e_ks4 => ?_)
  have kh5 : ks4.1 y = zmO y (upd (upd F 7 1) 8 p) := by rw [e_ks4]; exact zup_at _ _ _
  have kF6 := zFr.put kF3 e_ks4 (by first | omega | simp)
  refine zr_aload_n dX10_denies_10 rfl ?_
  refine zr_iload_n dX10_denies_11 rfl ?_
  refine zr_putM (v := n) dX10_denies_12 pX10_56 kh5 (rfl) (rfl) (Nat.le_of_ble_eq_true rfl) (zms_9 _ _ _) ?_
  refine zr_sig (fun ks7 e_ks7 => ?_)
  have kh8 : ks7.1 y = zmO y (upd (upd (upd F 7 1) 8 p) 9 n) := by rw [e_ks7]; exact zup_at _ _ _
  have kF9 := zFr.put kF6 e_ks7 (by first | omega | simp)
  refine zr_aload_n dX10_denies_15 rfl ?_
  refine zr_iload_n dX10_denies_16 rfl ?_
  refine zr_putM (v := q) dX10_denies_17 pX10_59 kh8 (rfl) (rfl) (Nat.le_of_ble_eq_true rfl) (zms_10 _ _ _) ?_
  refine zr_sig (fun ks10 e_ks10 => ?_)
  have kh11 : ks10.1 y = zmO y (upd (upd (upd (upd F 7 1) 8 p) 9 n) 10 q) := by rw [e_ks10]; exact zup_at _ _ _
  have kF12 := zFr.put kF9 e_ks10 (by first | omega | simp)
  refine zr_aload_n dX10_denies_20 rfl ?_
  refine zr_iconst (v := 0) dX10_denies_21 (by decide) ?_
  refine zr_putM (v := 0) dX10_denies_22 pX10_62 kh11 (rfl) (rfl) (Nat.le_of_ble_eq_true rfl) (zms_11 _ _ _) ?_
  refine zr_sig (fun ks13 e_ks13 => ?_)
  have kh14 : ks13.1 y = zmO y (upd (upd (upd (upd (upd F 7 1) 8 p) 9 n) 10 q) 11 0) := by rw [e_ks13]; exact zup_at _ _ _
  have kF15 := zFr.put kF12 e_ks13 (by first | omega | simp)
  refine zr_iconst (v := 0) dX10_denies_25 (by decide) ?_
  exact zr_ireturn dX10_denies_26 rfl (rfl) (⟨_, rfl, rfl, kF15, kh14⟩)

set_option maxHeartbeats 400000 in
set_option maxRecDepth 100000 in
theorem qX10_in {X : zX} (hX : X.1.stackTraces = false) {σ : zS} {v l h : Int32}  : zMet X mX10_in yX10_in 0 0 0 [.int v, .int l, .int h] σ (zI (fun y_ s_ => y_ = (if l ≤ v ∧ v ≤ h then 1 else 0) ∧ s_ = σ)) := by
  refine zMet_of (ls := [some (.int v), some (.int l), some (.int h)]) rfl (by decide +kernel) rfl (fun h => by cases h) hX (Nat.le_of_ble_eq_true rfl) rfl ?_
  refine zr_iload_n dX10_in_0 rfl ?_
  refine zr_iload_n dX10_in_1 rfl ?_
  refine zr_icmp_lt (tgt := 14) dX10_in_2 (by decide) (fun c_2 => ?_) (fun c_2 => ?_)
  · refine zr_iconst (v := 0) dX10_in_14 (by decide) ?_
    exact zr_ireturn dX10_in_15 rfl (rfl) (⟨_, rfl, by rw [if_neg (fun q => Int32.not_lt.mpr q.1 c_2)], rfl⟩)
  · refine zr_iload_n dX10_in_5 rfl ?_
    refine zr_iload_n dX10_in_6 rfl ?_
    refine zr_icmp_gt (tgt := 14) dX10_in_7 (by decide) (fun c_7 => ?_) (fun c_7 => ?_)
    · refine zr_iconst (v := 0) dX10_in_14 (by decide) ?_
      exact zr_ireturn dX10_in_15 rfl (rfl) (⟨_, rfl, by rw [if_neg (fun q => Int32.not_lt.mpr q.2 c_7)], rfl⟩)
    · refine zr_iconst (v := 1) dX10_in_10 (by decide) ?_
      refine zr_goto (tgt := 15) dX10_in_11 (by decide) ?_
      exact zr_ireturn dX10_in_15 rfl (rfl) (⟨_, rfl, by rw [if_pos ⟨Int32.not_lt.mp c_2, Int32.not_lt.mp c_7⟩], rfl⟩)

set_option maxHeartbeats 400000 in
set_option maxRecDepth 100000 in
theorem qX10_size {X : zX} (hX : X.1.stackTraces = false) {σ : zS} {v : Int32}  : zMet X mX10_size yX10_size 0 0 0 [.int v] σ (zI (fun y_ s_ => y_ = zix v ∧ s_ = σ)) := by
  refine zMet_of (ls := [some (.int v)]) rfl (by decide +kernel) rfl (fun h => by cases h) hX (Nat.le_of_ble_eq_true rfl) rfl ?_
  refine zr_iload_n dX10_size_0 rfl ?_
  refine zr_if_ge (tgt := 9) dX10_size_1 (by decide) (fun c_1 => ?_) (fun c_1 => ?_)
  · refine zr_iload_n dX10_size_9 rfl ?_
    exact zr_ireturn dX10_size_10 rfl (rfl) (⟨_, rfl, by unfold zix; rw [if_neg (Int32.not_lt.mpr c_1)], rfl⟩)
  · refine zr_iload_n dX10_size_4 rfl ?_
    refine zr_ineg dX10_size_5 ?_
    refine zr_goto (tgt := 10) dX10_size_6 (by decide) ?_
    exact zr_ireturn dX10_size_10 rfl (rfl) (⟨_, rfl, by unfold zix; rw [if_pos (Int32.not_le.mp c_1)], rfl⟩)

set_option maxHeartbeats 400000 in
set_option maxRecDepth 100000 in
theorem qX10_caseAt {X : zX} (hX : X.1.stackTraces = false) {σ : zS} {i : Nat}  : zMet X mX10_caseAt yX10_caseAt 0 0 0 [.int (nI i)] σ (zI (fun y_ s_ => y_ = nI (2 + 5 * i) ∧ s_ = σ)) := by
  refine zMet_of (ls := [some (.int (nI i))]) rfl (by decide +kernel) rfl (fun h => by cases h) hX (Nat.le_of_ble_eq_true rfl) rfl ?_
  refine zr_iconst (v := 2) dX10_caseAt_0 (by decide) ?_
  refine zr_iconst (v := 5) dX10_caseAt_1 (by decide) ?_
  refine zr_iload_n dX10_caseAt_2 rfl ?_
  refine zr_imul dX10_caseAt_3 ?_
  refine zr_eqi (x' := nI (5 * i)) (pk_mul 5 i) ?_
  refine zr_iadd dX10_caseAt_4 ?_
  refine zr_eqi (x' := nI (2 + (5 * i))) (nI_add 2 (5 * i)) ?_
  exact zr_ireturn dX10_caseAt_5 rfl (rfl) (⟨_, rfl, rfl, rfl⟩)

set_option maxHeartbeats 400000 in
set_option maxRecDepth 100000 in
theorem qX10_precedentAt {X : zX} (hX : X.1.stackTraces = false) {σ : zS} {i : Nat}  : zMet X mX10_precedentAt yX10_precedentAt 0 0 0 [.int (nI i)] σ (zI (fun y_ s_ => y_ = nI (42 + 5 * i) ∧ s_ = σ)) := by
  refine zMet_of (ls := [some (.int (nI i))]) rfl (by decide +kernel) rfl (fun h => by cases h) hX (Nat.le_of_ble_eq_true rfl) rfl ?_
  refine zr_bipush (v := 42) dX10_precedentAt_0 (by decide) ?_
  refine zr_iconst (v := 5) dX10_precedentAt_2 (by decide) ?_
  refine zr_iload_n dX10_precedentAt_3 rfl ?_
  refine zr_imul dX10_precedentAt_4 ?_
  refine zr_eqi (x' := nI (5 * i)) (pk_mul 5 i) ?_
  refine zr_iadd dX10_precedentAt_5 ?_
  refine zr_eqi (x' := nI (42 + (5 * i))) (nI_add 42 (5 * i)) ?_
  exact zr_ireturn dX10_precedentAt_6 rfl (rfl) (⟨_, rfl, rfl, rfl⟩)

/-- so many numbers of a row, laid into another -/
def zcpn (f t : Nat → Int32) (p q n : Nat) : Nat → Int32 := fun j => if q ≤ j ∧ j < q + n then f (p + (j - q)) else t j
theorem zcpn_0 (f t : Nat → Int32) (p q : Nat) : zcpn f t p q 0 = t := by funext j; unfold zcpn; rw [if_neg (by omega)]
theorem zcpn_s (f t : Nat → Int32) (p q n : Nat) : upd (zcpn f t p q n) (q + n) (f (p + n)) = zcpn f t p q (n + 1) := by
  funext j
  simp only [upd, zcpn]
  by_cases e : j = q + n
  · rw [if_pos e, if_pos (by omega)]; congr 1; omega
  · rw [if_neg e]
    by_cases h : q ≤ j ∧ j < q + n
    · rw [if_pos h, if_pos (by omega)]
    · rw [if_neg h, if_neg (by omega)]
set_option maxHeartbeats 400000 in
set_option maxRecDepth 100000 in
theorem l_cp {X : zX} (hX : X.1.stackTraces = false) {σ : zS} {a b p q N N2 : Nat} {f t : Nat → Int32} (h1 : σ.1 a = .inl (0, N, .inl f)) (hab : a ≠ b) (hp : p + 82 ≤ N) (hq : q + 82 ≤ N2) (hN : N < 2 ^ 20) (hN2 : N2 < 2 ^ 20) : ∀ (j i : Nat) (s : zS), i + j = 82 → (zFr σ s (fun q => q = b)) → (s.1 b = .inl (0, N2, .inl (zcpn f t p q i))) → zW X mX10_copies 0 0 0 (zV (fun s => zFr σ s (fun q => q = b) ∧ s.1 b = .inl (0, N2, .inl (zcpn f t p q 82)))) 3 [some (.ref a), some (.int (nI p)), some (.ref b), some (.int (nI q)), some (.int (nI i))] [] s := by
  intro j
  induction j with
  | zero =>
    intro i s hi hF h2
    have ha := zFr.get hF hab h1
    refine zr_iload dX10_copies_3 rfl ?_
    refine zr_bipush (v := 82) dX10_copies_5 (by decide) ?_
    refine zr_icmp_ge (tgt := 28) dX10_copies_7 (by decide) (fun c_7 => ?_) (fun c_7 => absurd ((nI_leI (a := 82) (b := i) (by omega) (by omega)).mpr (by omega)) c_7)
    exact zr_return dX10_copies_28 rfl (by have e1 : i = 82 := (by omega); subst e1; exact ⟨rfl, hF, h2⟩)
  | succ j ih =>
    intro i s hi hF h2
    have ha := zFr.get hF hab h1
    refine zr_iload dX10_copies_3 rfl ?_
    refine zr_bipush (v := 82) dX10_copies_5 (by decide) ?_
    refine zr_icmp_ge (tgt := 28) dX10_copies_7 (by decide) (fun c_7 => absurd c_7 (fun h => absurd ((nI_leI (a := 82) (b := i) (by omega) (by omega)).mp h) (by omega))) (fun c_7 => ?_)
    refine zr_aload_n dX10_copies_10 rfl ?_
    refine zr_iload_n dX10_copies_11 rfl ?_
    refine zr_iload dX10_copies_12 rfl ?_
    refine zr_iadd dX10_copies_14 ?_
    refine zr_eqi (x' := nI (q + i)) (nI_add q i) ?_
    refine zr_aload_n dX10_copies_15 rfl ?_
    refine zr_iload_n dX10_copies_16 rfl ?_
    refine zr_iload dX10_copies_17 rfl ?_
    refine zr_iadd dX10_copies_19 ?_
    refine zr_eqi (x' := nI (p + i)) (nI_add p i) ?_
    refine zr_iaload dX10_copies_20 ha (vp_in_nI (n := p + i) (by omega) (by omega)) ?_
    rw [nI_clamp (n := p + i) (by omega)]
    refine zr_iastore dX10_copies_21 h2 (vp_in_nI (n := q + i) (by omega) (by omega)) ?_
    rw [nI_clamp (n := q + i) (by omega)]
    refine zr_sig (fun ks1 e_ks1 => ?_)
    have kh2 : ks1.1 a = .inl (0, N, .inl f) := by rw [e_ks1, zup_ne _ _ (by omega)]; exact ha
    have kh3 : ks1.1 b = .inl (0, N2, .inl (upd (zcpn f t p q i) (q + i) (f (p + i)))) := by rw [e_ks1]; exact zup_at _ _ _
    have kF4 := zFr.put hF e_ks1 rfl
    refine zr_iinc (v := nI (i + 1)) (ls' := [some (.ref a), some (.int (nI p)), some (.ref b), some (.int (nI q)), some (.int (nI (i + 1)))]) dX10_copies_22 rfl (nI_1 _) (by decide) rfl ?_
    refine zr_goto (tgt := 3) dX10_copies_25 (by decide) ?_
    exact ih (i + 1) _ (by omega) (kF4) (by rw [← zcpn_s]; exact kh3)

set_option maxHeartbeats 400000 in
set_option maxRecDepth 100000 in
theorem qX10_copies {X : zX} (hX : X.1.stackTraces = false) {σ : zS} {a b p q N N2 : Nat} {f t : Nat → Int32} (h1 : σ.1 a = .inl (0, N, .inl f)) (hab : a ≠ b) (hp : p + 82 ≤ N) (hq : q + 82 ≤ N2) (hN : N < 2 ^ 20) (hN2 : N2 < 2 ^ 20) (h2 : σ.1 b = .inl (0, N2, .inl t)) : zMet X mX10_copies yX10_copies 0 0 0 [.ref a, .int (nI p), .ref b, .int (nI q)] σ (zV (fun s => zFr σ s (fun q => q = b) ∧ s.1 b = .inl (0, N2, .inl (zcpn f t p q 82)))) := by
  refine zMet_of (ls := [some (.ref a), some (.int (nI p)), some (.ref b), some (.int (nI q)), none]) rfl (by decide +kernel) rfl (fun h => by cases h) hX (Nat.le_of_ble_eq_true rfl) rfl ?_
  refine zr_iconst (v := 0) dX10_copies_0 (by decide) ?_
  refine zr_istore (ls' := [some (.ref a), some (.int (nI p)), some (.ref b), some (.int (nI q)), some (.int 0)]) dX10_copies_1 (by decide) rfl ?_
  exact l_cp hX h1 hab hp hq hN hN2 82 0 _ (by omega) zFr.rf (by rw [zcpn_0]; exact h2)

set_option maxHeartbeats 400000 in
set_option maxRecDepth 100000 in
theorem qX10_letter {X : zX} (hX : X.1.stackTraces = false) {σ : zS} {y : Nat} {F : Nat → Int32} {w k : Nat} {g : Nat → Int32} (h0 : σ.1 y = zmO y F) (h1 : σ.1 (y + 1) = .inl (0, 82, .inl g)) (hk : k < 16) (hw : w + 5 ≤ 82) : zMet X mX10_letter yX10_letter 0 0 0 [.ref y, .int (nI w), .int (nI k)] σ (zI (fun y_ s_ => y_ = zdl g w k ∧ s_ = σ)) := by
  refine zMet_of (ls := [some (.ref y), some (.int (nI w)), some (.int (nI k)), none]) rfl (by decide +kernel) rfl (fun h => by cases h) hX (Nat.le_of_ble_eq_true rfl) rfl ?_
  refine zr_aload_n dX10_letter_0 rfl ?_
  refine zr_getM (v := .ref (y + 1)) dX10_letter_1 fX10_7 h0 rfl ?_
  refine zr_iload_n dX10_letter_4 rfl ?_
  refine zr_iconst (v := 3) dX10_letter_5 (by decide) ?_
  refine zr_iadd dX10_letter_6 ?_
  refine zr_eqi (x' := nI (w + 3)) (nI_add w 3) ?_
  refine zr_iload_n dX10_letter_7 rfl ?_
  refine zr_bipush (v := 8) dX10_letter_8 (by decide) ?_
  refine zr_idiv dX10_letter_10 (by decide) ?_
  refine zr_eqi (x' := nI (k / 8)) (pk_div (a := k) (d := 8) (by omega) (by omega) (by omega)) ?_
  refine zr_iadd dX10_letter_11 ?_
  refine zr_eqi (x' := nI ((w + 3) + (k / 8))) (nI_add (w + 3) (k / 8)) ?_
  refine zr_iaload dX10_letter_12 h1 (vp_in_nI (n := (w + 3) + (k / 8)) (by omega) (by omega)) ?_
  rw [nI_clamp (n := (w + 3) + (k / 8)) (by omega)]
  refine zr_iconst (v := 3) dX10_letter_13 (by decide) ?_
  refine zr_iload_n dX10_letter_14 rfl ?_
  refine zr_bipush (v := 8) dX10_letter_15 (by decide) ?_
  refine zr_irem dX10_letter_17 (by decide) ?_
  refine zr_eqi (x' := nI (k % 8)) (pk_rem (a := k) (d := 8) (by omega) (by omega) (by omega)) ?_
  refine zr_imul dX10_letter_18 ?_
  refine zr_eqi (x' := nI (3 * (k % 8))) (pk_mul 3 (k % 8)) ?_
  refine zr_ishr dX10_letter_19 ?_
  refine zr_bipush (v := 7) dX10_letter_20 (by decide) ?_
  refine zr_iand dX10_letter_22 ?_
  refine zr_istore_n (ls' := [some (.ref y), some (.int (nI w)), some (.int (nI k)), some (.int ((((g ((w + 3) + (k / 8))) >>> (nI (3 * (k % 8)) &&& 31)) &&& 7)))]) dX10_letter_23 rfl (by decide) rfl ?_
  refine zr_iload_n dX10_letter_24 rfl ?_
  refine zr_iconst (v := 4) dX10_letter_25 (by decide) ?_
  refine zr_icmp_ge (tgt := 35) dX10_letter_26 (by decide) (fun c_26 => ?_) (fun c_26 => ?_)
  · refine zr_iconst (v := 3) dX10_letter_35 (by decide) ?_
    refine zr_iload_n dX10_letter_36 rfl ?_
    refine zr_isub dX10_letter_37 ?_
    exact zr_ireturn dX10_letter_38 rfl (rfl) (⟨_, rfl, by unfold zdl zdv; first | rw [if_pos c_26] | rw [if_neg c_26], rfl⟩)
  · refine zr_iload_n dX10_letter_29 rfl ?_
    refine zr_iconst (v := 1) dX10_letter_30 (by decide) ?_
    refine zr_iadd dX10_letter_31 ?_
    refine zr_goto (tgt := 38) dX10_letter_32 (by decide) ?_
    exact zr_ireturn dX10_letter_38 rfl (rfl) (⟨_, rfl, by unfold zdl zdv; first | rw [if_pos c_26] | rw [if_neg c_26], rfl⟩)

set_option maxHeartbeats 400000 in
set_option maxRecDepth 100000 in
theorem qX10_lays {X : zX} (hX : X.1.stackTraces = false) {σ : zS} {y : Nat} {F : Nat → Int32} {w k : Nat} {g : Nat → Int32} {l : Int32} (h0 : σ.1 y = zmO y F) (h1 : σ.1 (y + 1) = .inl (0, 82, .inl g)) (hk : k < 16) (hw : w + 5 ≤ 82) : zMet X mX10_lays yX10_lays 0 0 0 [.ref y, .int (nI w), .int (nI k), .int l] σ (zV (fun s => zFr σ s (fun q => q = y + 1) ∧ s.1 (y + 1) = .inl (0, 82, .inl (zlg g w k l)))) := by
  refine zMet_of (ls := [some (.ref y), some (.int (nI w)), some (.int (nI k)), some (.int l), none, none, none]) rfl (by decide +kernel) rfl (fun h => by cases h) hX (Nat.le_of_ble_eq_true rfl) rfl ?_
  refine zr_iconst (v := 3) dX10_lays_0 (by decide) ?_
  refine zr_iload_n dX10_lays_1 rfl ?_
  refine zr_bipush (v := 8) dX10_lays_2 (by decide) ?_
  refine zr_irem dX10_lays_4 (by decide) ?_
  refine zr_eqi (x' := nI (k % 8)) (pk_rem (a := k) (d := 8) (by omega) (by omega) (by omega)) ?_
  refine zr_imul dX10_lays_5 ?_
  refine zr_eqi (x' := nI (3 * (k % 8))) (pk_mul 3 (k % 8)) ?_
  refine zr_istore (ls' := [some (.ref y), some (.int (nI w)), some (.int (nI k)), some (.int l), some (.int (nI (3 * (k % 8)))), none, none]) dX10_lays_6 (by decide) rfl ?_
  refine zr_iload_n dX10_lays_8 rfl ?_
  refine zr_if_le (tgt := 18) dX10_lays_9 (by decide) (fun c_9 => ?_) (fun c_9 => ?_)
  · refine zr_iconst (v := 3) dX10_lays_18 (by decide) ?_
    refine zr_iload_n dX10_lays_19 rfl ?_
    refine zr_isub dX10_lays_20 ?_
    refine zr_istore (ls' := [some (.ref y), some (.int (nI w)), some (.int (nI k)), some (.int l), some (.int (nI (3 * (k % 8)))), some (.int ((3 - l))), none]) dX10_lays_21 (by decide) rfl ?_
    refine zr_iload_n dX10_lays_23 rfl ?_
    refine zr_iconst (v := 3) dX10_lays_24 (by decide) ?_
    refine zr_iadd dX10_lays_25 ?_
    refine zr_eqi (x' := nI (w + 3)) (nI_add w 3) ?_
    refine zr_iload_n dX10_lays_26 rfl ?_
    refine zr_bipush (v := 8) dX10_lays_27 (by decide) ?_
    refine zr_idiv dX10_lays_29 (by decide) ?_
    refine zr_eqi (x' := nI (k / 8)) (pk_div (a := k) (d := 8) (by omega) (by omega) (by omega)) ?_
    refine zr_iadd dX10_lays_30 ?_
    refine zr_eqi (x' := nI ((w + 3) + (k / 8))) (nI_add (w + 3) (k / 8)) ?_
    refine zr_istore (ls' := [some (.ref y), some (.int (nI w)), some (.int (nI k)), some (.int l), some (.int (nI (3 * (k % 8)))), some (.int ((3 - l))), some (.int (nI ((w + 3) + (k / 8))))]) dX10_lays_31 (by decide) rfl ?_
    refine zr_aload_n dX10_lays_33 rfl ?_
    refine zr_getM (v := .ref (y + 1)) dX10_lays_34 fX10_7 h0 rfl ?_
    refine zr_iload dX10_lays_37 rfl ?_
    refine zr_aload_n dX10_lays_39 rfl ?_
    refine zr_getM (v := .ref (y + 1)) dX10_lays_40 fX10_7 h0 rfl ?_
    refine zr_iload dX10_lays_43 rfl ?_
    refine zr_iaload dX10_lays_45 h1 (vp_in_nI (n := (w + 3) + (k / 8)) (by omega) (by omega)) ?_
    rw [nI_clamp (n := (w + 3) + (k / 8)) (by omega)]
    refine zr_bipush (v := 7) dX10_lays_46 (by decide) ?_
    refine zr_iload dX10_lays_48 rfl ?_
    refine zr_ishl dX10_lays_50 ?_
    refine zr_iconst (v := -1) dX10_lays_51 (by decide) ?_
    refine zr_ixor dX10_lays_52 ?_
    refine zr_iand dX10_lays_53 ?_
    refine zr_iload dX10_lays_54 rfl ?_
    refine zr_iload dX10_lays_56 rfl ?_
    refine zr_ishl dX10_lays_58 ?_
    refine zr_ior dX10_lays_59 ?_
    refine zr_iastore dX10_lays_60 h1 (vp_in_nI (n := (w + 3) + (k / 8)) (by omega) (by omega)) ?_
    rw [nI_clamp (n := (w + 3) + (k / 8)) (by omega)]
    refine zr_sig (fun ks1 e_ks1 => ?_)
    have kh2 : ks1.1 y = zmO y F := by rw [e_ks1, zup_ne _ _ (by omega)]; exact h0
    have kh3 : ks1.1 (y + 1) = .inl (0, 82, .inl (upd g ((w + 3) + (k / 8)) (((g ((w + 3) + (k / 8))) &&& ((7 <<< (nI (3 * (k % 8)) &&& 31)) ^^^ (-1))) ||| ((3 - l) <<< (nI (3 * (k % 8)) &&& 31))))) := by rw [e_ks1]; exact zup_at _ _ _
    have kF4 := zFr.put zFr.rf (P := (fun q => q = y + 1)) e_ks1 (by first | omega | simp)
    exact zr_return dX10_lays_61 rfl (⟨rfl, kF4, by have z := kh3; rw [z]; unfold zlg zly zlv; rw [if_pos c_9]⟩)
  · refine zr_iload_n dX10_lays_12 rfl ?_
    refine zr_iconst (v := 1) dX10_lays_13 (by decide) ?_
    refine zr_isub dX10_lays_14 ?_
    refine zr_goto (tgt := 21) dX10_lays_15 (by decide) ?_
    refine zr_istore (ls' := [some (.ref y), some (.int (nI w)), some (.int (nI k)), some (.int l), some (.int (nI (3 * (k % 8)))), some (.int ((l - 1))), none]) dX10_lays_21 (by decide) rfl ?_
    refine zr_iload_n dX10_lays_23 rfl ?_
    refine zr_iconst (v := 3) dX10_lays_24 (by decide) ?_
    refine zr_iadd dX10_lays_25 ?_
    refine zr_eqi (x' := nI (w + 3)) (nI_add w 3) ?_
    refine zr_iload_n dX10_lays_26 rfl ?_
    refine zr_bipush (v := 8) dX10_lays_27 (by decide) ?_
    refine zr_idiv dX10_lays_29 (by decide) ?_
    refine zr_eqi (x' := nI (k / 8)) (pk_div (a := k) (d := 8) (by omega) (by omega) (by omega)) ?_
    refine zr_iadd dX10_lays_30 ?_
    refine zr_eqi (x' := nI ((w + 3) + (k / 8))) (nI_add (w + 3) (k / 8)) ?_
    refine zr_istore (ls' := [some (.ref y), some (.int (nI w)), some (.int (nI k)), some (.int l), some (.int (nI (3 * (k % 8)))), some (.int ((l - 1))), some (.int (nI ((w + 3) + (k / 8))))]) dX10_lays_31 (by decide) rfl ?_
    refine zr_aload_n dX10_lays_33 rfl ?_
    refine zr_getM (v := .ref (y + 1)) dX10_lays_34 fX10_7 h0 rfl ?_
    refine zr_iload dX10_lays_37 rfl ?_
    refine zr_aload_n dX10_lays_39 rfl ?_
    refine zr_getM (v := .ref (y + 1)) dX10_lays_40 fX10_7 h0 rfl ?_
    refine zr_iload dX10_lays_43 rfl ?_
    refine zr_iaload dX10_lays_45 h1 (vp_in_nI (n := (w + 3) + (k / 8)) (by omega) (by omega)) ?_
    rw [nI_clamp (n := (w + 3) + (k / 8)) (by omega)]
    refine zr_bipush (v := 7) dX10_lays_46 (by decide) ?_
    refine zr_iload dX10_lays_48 rfl ?_
    refine zr_ishl dX10_lays_50 ?_
    refine zr_iconst (v := -1) dX10_lays_51 (by decide) ?_
    refine zr_ixor dX10_lays_52 ?_
    refine zr_iand dX10_lays_53 ?_
    refine zr_iload dX10_lays_54 rfl ?_
    refine zr_iload dX10_lays_56 rfl ?_
    refine zr_ishl dX10_lays_58 ?_
    refine zr_ior dX10_lays_59 ?_
    refine zr_iastore dX10_lays_60 h1 (vp_in_nI (n := (w + 3) + (k / 8)) (by omega) (by omega)) ?_
    rw [nI_clamp (n := (w + 3) + (k / 8)) (by omega)]
    refine zr_sig (fun ks5 e_ks5 => ?_)
    have kh6 : ks5.1 y = zmO y F := by rw [e_ks5, zup_ne _ _ (by omega)]; exact h0
    have kh7 : ks5.1 (y + 1) = .inl (0, 82, .inl (upd g ((w + 3) + (k / 8)) (((g ((w + 3) + (k / 8))) &&& ((7 <<< (nI (3 * (k % 8)) &&& 31)) ^^^ (-1))) ||| ((l - 1) <<< (nI (3 * (k % 8)) &&& 31))))) := by rw [e_ks5]; exact zup_at _ _ _
    have kF8 := zFr.put zFr.rf (P := (fun q => q = y + 1)) e_ks5 (by first | omega | simp)
    exact zr_return dX10_lays_61 rfl (⟨rfl, kF8, by have z := kh7; rw [z]; unfold zlg zly zlv; rw [if_neg c_9]⟩)

set_option maxHeartbeats 400000 in
set_option maxRecDepth 100000 in
theorem qX10_written {X : zX} (hX : X.1.stackTraces = false) {σ : zS} {l : Int32}  : zMet X mX10_written yX10_written 0 0 0 [.int l] σ (zI (fun y_ s_ => y_ = zchr l ∧ s_ = σ)) := by
  refine zMet_of (ls := [some (.int l)]) rfl (by decide +kernel) rfl (fun h => by cases h) hX (Nat.le_of_ble_eq_true rfl) rfl ?_
  refine zr_iload_n dX10_written_0 rfl ?_
  refine zr_if_le (tgt := 13) dX10_written_1 (by decide) (fun c_1 => ?_) (fun c_1 => ?_)
  · refine zr_bipush (v := 65) dX10_written_13 (by decide) ?_
    refine zr_iload_n dX10_written_15 rfl ?_
    refine zr_isub dX10_written_16 ?_
    refine zr_iconst (v := 1) dX10_written_17 (by decide) ?_
    refine zr_isub dX10_written_18 ?_
    refine zr_i2c dX10_written_19 ?_
    exact zr_ireturn dX10_written_20 rfl (pk_nc _) (⟨_, rfl, by unfold zchr; rw [if_neg (Int32.not_lt.mpr c_1)], rfl⟩)
  · refine zr_bipush (v := 97) dX10_written_4 (by decide) ?_
    refine zr_iload_n dX10_written_6 rfl ?_
    refine zr_iadd dX10_written_7 ?_
    refine zr_iconst (v := 1) dX10_written_8 (by decide) ?_
    refine zr_isub dX10_written_9 ?_
    refine zr_goto (tgt := 19) dX10_written_10 (by decide) ?_
    refine zr_i2c dX10_written_19 ?_
    exact zr_ireturn dX10_written_20 rfl (pk_nc _) (⟨_, rfl, by unfold zchr; rw [if_pos (Int32.not_le.mp c_1)], rfl⟩)

theorem znegs (c : Int32) : -(c - 65 + 1) = 65 - c - 1 := by
  apply Int32.toBitVec_inj.mp
  show -(c.toBitVec - 65#32 + 1#32) = 65#32 - c.toBitVec - 1#32
  generalize c.toBitVec = b
  bv_omega
set_option maxHeartbeats 400000 in
set_option maxRecDepth 100000 in
theorem qX10_read {X : zX} (hX : X.1.stackTraces = false) {σ : zS} {c : Int32}  : zMet X mX10_read yX10_read 1 0 0 [.int c] σ (zI (fun y_ s_ => y_ = zlet c ∧ s_ = σ)) := by
  refine zMet_of (ls := [some (.int c)]) rfl (by decide +kernel) rfl (fun h => by cases h) hX (Nat.le_of_ble_eq_true rfl) rfl ?_
  refine zr_iload_n dX10_read_0 rfl ?_
  refine zr_bipush (v := 97) dX10_read_1 (by decide) ?_
  refine zr_bipush (v := 100) dX10_read_3 (by decide) ?_
  refine zr_pSi [] dX10_read_5 vX10_75 (qX10_in hX (v := c) (l := 97) (h := 100)) (by decide) (by decide) (by decide) rfl rfl (Nat.le_of_ble_eq_true rfl) rfl ?_
  refine zr_if_eq (tgt := 20) dX10_read_8 (by decide) (fun c_8 => ?_) (fun c_8 => ?_)
  · refine zr_iload_n dX10_read_20 rfl ?_
    refine zr_bipush (v := 65) dX10_read_21 (by decide) ?_
    refine zr_bipush (v := 68) dX10_read_23 (by decide) ?_
    refine zr_pSi [] dX10_read_25 vX10_75 (qX10_in hX (v := c) (l := 65) (h := 68)) (by decide) (by decide) (by decide) rfl rfl (Nat.le_of_ble_eq_true rfl) rfl ?_
    refine zr_if_eq (tgt := 41) dX10_read_28 (by decide) (fun c_28 => ?_) (fun c_28 => ?_)
    · refine zr_iconst (v := 0) dX10_read_41 (by decide) ?_
      exact zr_ireturn dX10_read_42 rfl (rfl) (⟨_, rfl, by unfold zlet; rw [if_neg (ite10.mp c_8), if_neg (ite10.mp c_28)], rfl⟩)
    · refine zr_iload_n dX10_read_31 rfl ?_
      refine zr_bipush (v := 65) dX10_read_32 (by decide) ?_
      refine zr_isub dX10_read_34 ?_
      refine zr_iconst (v := 1) dX10_read_35 (by decide) ?_
      refine zr_iadd dX10_read_36 ?_
      refine zr_ineg dX10_read_37 ?_
      refine zr_goto (tgt := 42) dX10_read_38 (by decide) ?_
      exact zr_ireturn dX10_read_42 rfl (rfl) (⟨_, rfl, by unfold zlet; rw [if_neg (ite10.mp c_8), if_pos (Classical.not_not.mp (fun q => c_28 (ite10.mpr q)))]; exact znegs c, rfl⟩)
  · refine zr_iload_n dX10_read_11 rfl ?_
    refine zr_bipush (v := 97) dX10_read_12 (by decide) ?_
    refine zr_isub dX10_read_14 ?_
    refine zr_iconst (v := 1) dX10_read_15 (by decide) ?_
    refine zr_iadd dX10_read_16 ?_
    refine zr_goto (tgt := 42) dX10_read_17 (by decide) ?_
    exact zr_ireturn dX10_read_42 rfl (rfl) (⟨_, rfl, by unfold zlet; rw [if_pos (Classical.not_not.mp (fun q => c_8 (ite10.mpr q)))], rfl⟩)

