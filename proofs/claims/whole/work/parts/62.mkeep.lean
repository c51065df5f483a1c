/-! changes are kept -/
def mN (w : Int32) (m : Nat) : Nat := if w = 0 then min (m + 1) 8 else m
def UN (w : Int32) (A : zDk) (U : Nat → zDk) : Nat → zDk := if w = 0 then zPu A U else U
theorem mN_8 {w : Int32} {m : Nat} (h : m ≤ 8) : mN w m ≤ 8 := by unfold mN; split <;> omega
/-- the rows of the last changes -/
def zHs (m : Nat) (U : Nat → zDk) (kp : Nat → Int32) : Prop := ∀ t, t < m → zGr (U t) (fun k => kp (82 * (m - 1 - t) + k))
theorem zHs_push {m c : Nat} {A : zDk} {U : Nat → zDk} {kp k1 r : Nat → Int32} (hm : m ≤ 8) (hU : zHs m U kp) (wU : ∀ t, t < m → zDw (U t)) (gr : zGr A r) (hA : zDw A) (hc : (c = m ∧ m < 8 ∧ ∀ k, k < 656 → k1 k = kp k) ∨ (c = 7 ∧ m = 8 ∧ ∀ k, k < 574 → k1 k = kp (k + 82))) : zHs (c + 1) (zPu A U) (zcpn r k1 0 (82 * c) 82) := by
  intro t ht
  rcases t with _ | t
  · refine gr.cg hA (fun k hk => ?_)
    show (if 82 * c ≤ 82 * (c + 1 - 1 - 0) + k ∧ 82 * (c + 1 - 1 - 0) + k < 82 * c + 82 then r (0 + (82 * (c + 1 - 1 - 0) + k - 82 * c)) else _) = r k
    rw [if_pos (by omega)]; congr 1; omega
  · show zGr (U t) _
    refine (hU t (by omega)).cg (wU t (by omega)) (fun k hk => ?_)
    show (if 82 * c ≤ 82 * (c + 1 - 1 - (t + 1)) + k ∧ 82 * (c + 1 - 1 - (t + 1)) + k < 82 * c + 82 then _ else k1 (82 * (c + 1 - 1 - (t + 1)) + k)) = kp (82 * (m - 1 - t) + k)
    rw [if_neg (by omega)]
    rcases hc with ⟨c1, c2, c3⟩ | ⟨c1, c2, c3⟩
    · rw [c3 _ (by omega)]; congr 1; omega
    · rw [c3 _ (by omega)]; congr 1; omega
def zks (kp : Nat → Int32) (i : Nat) : Nat → Int32 := fun k => if k < i then kp (k + 82) else kp k
theorem zks_0 (kp : Nat → Int32) : zks kp 0 = kp := by funext k; unfold zks; rw [if_neg (by omega)]
theorem zks_hi (kp : Nat → Int32) (i : Nat) : zks kp i (i + 82) = kp (i + 82) := if_neg (by omega)
theorem zks_s (kp : Nat → Int32) (i : Nat) : upd (zks kp i) i (kp (i + 82)) = zks kp (i + 1) := by
  funext k
  simp only [upd, zks]
  by_cases e : k = i
  · rw [if_pos e, if_pos (by omega), e]
  · rw [if_neg e]
    by_cases e2 : k < i
    · rw [if_pos e2, if_pos (by omega)]
    · rw [if_neg e2, if_neg (by omega)]
set_option maxHeartbeats 400000 in
set_option maxRecDepth 100000 in
theorem qX10_keepsW {X : zX} (hX : X.1.stackTraces = false) {σ : zS} {y : Nat} {F : Nat → Int32} {r m : Nat} {g kp : Nat → Int32} {w : Int32} (h0 : σ.1 y = zmO y F) (h1 : σ.1 r = .inl (0, 82, .inl g)) (hr : r ≠ y) (hr2 : r ≠ y + 2) (h2 : σ.1 (y + 2) = .inl (0, 656, .inl kp)) (f5 : F 5 = nI m) (f6 : F 6 = w) (hw : ¬ w = 0) : zMet X mX10_keeps yX10_keeps 1 0 0 [.ref y, .ref r] σ (zV (fun s => zFr σ s (fun q => q = y ∨ q = y + 2) ∧ s.1 y = zmO y (upd F 8 0) ∧ s.1 (y + 2) = .inl (0, 656, .inl kp))) := by
  refine zMet_of (ls := [some (.ref y), some (.ref r), none]) rfl (by decide +kernel) rfl (fun h => by cases h) hX (Nat.le_of_ble_eq_true rfl) rfl ?_
  refine zr_aload_n dX10_keeps_0 rfl ?_
  refine zr_iconst (v := 0) dX10_keeps_1 (by decide) ?_
  refine zr_putM (v := 0) dX10_keeps_2 pX10_49 h0 (rfl) (rfl) (Nat.le_of_ble_eq_true rfl) (zms_8 _ _ _) ?_
  refine zr_sig (fun ks1 e_ks1 => ?_)
  have kh2 : ks1.1 y = zmO y (upd F 8 0) := by rw [e_ks1]; exact zup_at _ _ _
  have kh3 : ks1.1 r = .inl (0, 82, .inl g) := by rw [e_ks1, zup_ne _ _ (by omega)]; exact h1
  have kh4 : ks1.1 (y + 2) = .inl (0, 656, .inl kp) := by rw [e_ks1, zup_ne _ _ (by omega)]; exact h2
  have kF5 := zFr.put zFr.rf (P := (fun q => q = y ∨ q = y + 2)) e_ks1 (by first | omega | simp)
  refine zr_aload_n dX10_keeps_5 rfl ?_
  refine zr_getM (v := .int (F 6)) dX10_keeps_6 fX10_65 kh2 rfl ?_
  refine zr_eqi (x' := w) f6 ?_
  refine zr_if_eq (tgt := 13) dX10_keeps_9 (by decide) (fun c_9 => absurd c_9 (hw)) (fun c_9 => ?_)
  exact zr_return dX10_keeps_12 rfl (⟨rfl, kF5, kh2, kh4⟩)

set_option maxHeartbeats 400000 in
set_option maxRecDepth 100000 in
theorem qX10_keeps0 {X : zX} (hX : X.1.stackTraces = false) {σ : zS} {y : Nat} {F : Nat → Int32} {r m : Nat} {g kp : Nat → Int32} (h0 : σ.1 y = zmO y F) (h1 : σ.1 r = .inl (0, 82, .inl g)) (hr : r ≠ y) (hr2 : r ≠ y + 2) (h2 : σ.1 (y + 2) = .inl (0, 656, .inl kp)) (f5 : F 5 = nI m) (f6 : F 6 = 0) (hm : m < 8) : zMet X mX10_keeps yX10_keeps 1 0 0 [.ref y, .ref r] σ (zV (fun s => zFr σ s (fun q => q = y ∨ q = y + 2) ∧ s.1 y = zmO y (upd (upd F 5 (nI (m + 1))) 8 0) ∧ s.1 (y + 2) = .inl (0, 656, .inl (zcpn g kp 0 (82 * m) 82)))) := by
  refine zMet_of (ls := [some (.ref y), some (.ref r), none]) rfl (by decide +kernel) rfl (fun h => by cases h) hX (Nat.le_of_ble_eq_true rfl) rfl ?_
  refine zr_aload_n dX10_keeps_0 rfl ?_
  refine zr_iconst (v := 0) dX10_keeps_1 (by decide) ?_
  refine zr_putM (v := 0) dX10_keeps_2 pX10_49 h0 (rfl) (rfl) (Nat.le_of_ble_eq_true rfl) (zms_8 _ _ _) ?_
  refine zr_sig (fun ks1 e_ks1 => ?_)
  have kh2 : ks1.1 y = zmO y (upd F 8 0) := by rw [e_ks1]; exact zup_at _ _ _
  have kh3 : ks1.1 r = .inl (0, 82, .inl g) := by rw [e_ks1, zup_ne _ _ (by omega)]; exact h1
  have kh4 : ks1.1 (y + 2) = .inl (0, 656, .inl kp) := by rw [e_ks1, zup_ne _ _ (by omega)]; exact h2
  have kF5 := zFr.put zFr.rf (P := (fun q => q = y ∨ q = y + 2)) e_ks1 (by first | omega | simp)
  refine zr_aload_n dX10_keeps_5 rfl ?_
  refine zr_getM (v := .int (F 6)) dX10_keeps_6 fX10_65 kh2 rfl ?_
  refine zr_eqi (x' := 0) (f6) ?_
  refine zr_if_eq (tgt := 13) dX10_keeps_9 (by decide) (fun c_9 => ?_) (fun c_9 => absurd (by decide) c_9)
  refine zr_aload_n dX10_keeps_13 rfl ?_
  refine zr_getM (v := .int (F 5)) dX10_keeps_14 fX10_68 kh2 rfl ?_
  refine zr_eqi (x' := nI m) f5 ?_
  refine zr_bipush (v := 8) dX10_keeps_17 (by decide) ?_
  refine zr_icmp_ne (tgt := 62) dX10_keeps_19 (by decide) (fun c_19 => ?_) (fun c_19 => absurd c_19 (fun h => absurd ((nI_eq (a := m) (b := 8) (by omega) (by omega)).mp h) (by omega)))
  refine zr_aload_n dX10_keeps_62 rfl ?_
  refine zr_iconst (v := 0) dX10_keeps_63 (by decide) ?_
  refine zr_aload_n dX10_keeps_64 rfl ?_
  refine zr_getM (v := .ref (y + 2)) dX10_keeps_65 fX10_13 kh2 rfl ?_
  refine zr_bipush (v := 82) dX10_keeps_68 (by decide) ?_
  refine zr_aload_n dX10_keeps_70 rfl ?_
  refine zr_getM (v := .int (F 5)) dX10_keeps_71 fX10_68 kh2 rfl ?_
  refine zr_eqi (x' := nI m) f5 ?_
  refine zr_imul dX10_keeps_74 ?_
  refine zr_eqi (x' := nI (82 * m)) (pk_mul 82 m) ?_
  refine zr_callSv [] dX10_keeps_75 vX10_71 (qX10_copies hX (p := 0) (q := 82 * m) kh3 (by omega) (by omega) (by omega) (by omega) (by omega) kh4) (by decide) (by decide) (by decide) rfl rfl (Nat.le_of_ble_eq_true rfl) rfl (fun s_kr6 h_kr6 => ?_)
  obtain ⟨F_kr6, g0_kr6⟩ := h_kr6
  have kh7 : s_kr6.1 y = zmO y (upd F 8 0) := zFr.get F_kr6 (by omega) kh2
  have kh8 : s_kr6.1 r = .inl (0, 82, .inl g) := zFr.get F_kr6 (by omega) kh3
  have kF9 := zFr.tr kF5 F_kr6 (by intro q hq; omega)
  refine zr_aload_n dX10_keeps_78 rfl ?_
  refine zr_dup dX10_keeps_79 rfl ?_
  refine zr_getM (v := .int (F 5)) dX10_keeps_80 fX10_68 kh7 rfl ?_
  refine zr_eqi (x' := nI m) f5 ?_
  refine zr_iconst (v := 1) dX10_keeps_83 (by decide) ?_
  refine zr_iadd dX10_keeps_84 ?_
  refine zr_eqi (x' := nI (m + 1)) (nI_add m 1) ?_
  refine zr_putM (v := nI (m + 1)) dX10_keeps_85 pX10_68 kh7 (rfl) (rfl) (Nat.le_of_ble_eq_true rfl) (zms_5 _ _ _) ?_
  refine zr_sig (fun ks10 e_ks10 => ?_)
  have kh11 : ks10.1 y = zmO y (upd (upd F 5 (nI (m + 1))) 8 0) := by rw [e_ks10]; exact zup_at _ _ _
  have kh12 : ks10.1 r = .inl (0, 82, .inl g) := by rw [e_ks10, zup_ne _ _ (by omega)]; exact kh8
  have kh13 : ks10.1 (y + 2) = .inl (0, 656, .inl (zcpn g kp 0 (82 * m) 82)) := by rw [e_ks10, zup_ne _ _ (by omega)]; exact g0_kr6
  have kF14 := zFr.put kF9 e_ks10 (by first | omega | simp)
  exact zr_return dX10_keeps_88 rfl (⟨rfl, kF14, kh11, kh13⟩)

set_option maxHeartbeats 400000 in
set_option maxRecDepth 100000 in
theorem l_ks {X : zX} (hX : X.1.stackTraces = false) {σ : zS} {y : Nat} {F : Nat → Int32} {r m : Nat} {g kp : Nat → Int32} {Q : zO → zS → Prop} (h0 : σ.1 y = zmO y F) (h1 : σ.1 r = .inl (0, 82, .inl g)) (hr : r ≠ y) (hr2 : r ≠ y + 2) (h2 : σ.1 (y + 2) = .inl (0, 656, .inl kp)) (f5 : F 5 = nI m) (kk : ∀ s : zS, zFr σ s (fun q => q = y ∨ q = y + 2) → s.1 y = zmO y (upd F 8 0) → s.1 (y + 2) = .inl (0, 656, .inl (zks kp 574)) → zW X mX10_keeps 1 0 0 Q 52 [some (.ref y), some (.ref r), some (.int 574)] [] s) : ∀ (j i : Nat) (s : zS), i + j = 574 → (zFr σ s (fun q => q = y ∨ q = y + 2)) → (s.1 y = zmO y (upd F 8 0)) → (s.1 (y + 2) = .inl (0, 656, .inl (zks kp i))) → zW X mX10_keeps 1 0 0 (Q) 24 [some (.ref y), some (.ref r), some (.int (nI i))] [] s := by
  intro j
  induction j with
  | zero =>
    intro i s hi hFr k0 k2
    refine zr_iload_n dX10_keeps_24 rfl ?_
    refine zr_sipush (v := 574) dX10_keeps_25 (by decide) ?_
    refine zr_icmp_ge (tgt := 52) dX10_keeps_28 (by decide) (fun c_28 => ?_) (fun c_28 => absurd ((nI_leI (a := 574) (b := i) (by omega) (by omega)).mpr (by omega)) c_28)
    have e1 : i = 574 := (by omega); subst e1; exact kk s hFr k0 k2
  | succ j ih =>
    intro i s hi hFr k0 k2
    refine zr_iload_n dX10_keeps_24 rfl ?_
    refine zr_sipush (v := 574) dX10_keeps_25 (by decide) ?_
    refine zr_icmp_ge (tgt := 52) dX10_keeps_28 (by decide) (fun c_28 => absurd c_28 (fun h => absurd ((nI_leI (a := 574) (b := i) (by omega) (by omega)).mp h) (by omega))) (fun c_28 => ?_)
    refine zr_aload_n dX10_keeps_31 rfl ?_
    refine zr_getM (v := .ref (y + 2)) dX10_keeps_32 fX10_13 k0 rfl ?_
    refine zr_iload_n dX10_keeps_35 rfl ?_
    refine zr_aload_n dX10_keeps_36 rfl ?_
    refine zr_getM (v := .ref (y + 2)) dX10_keeps_37 fX10_13 k0 rfl ?_
    refine zr_iload_n dX10_keeps_40 rfl ?_
    refine zr_bipush (v := 82) dX10_keeps_41 (by decide) ?_
    refine zr_iadd dX10_keeps_43 ?_
    refine zr_eqi (x' := nI (i + 82)) (nI_add i 82) ?_
    refine zr_iaload dX10_keeps_44 k2 (vp_in_nI (n := i + 82) (by omega) (by omega)) ?_
    rw [nI_clamp (n := i + 82) (by omega)]
    refine zr_eqi (x' := (kp (i + 82))) (zks_hi kp i) ?_
    refine zr_iastore dX10_keeps_45 k2 (vp_in_nI (n := i) (by omega) (by omega)) ?_
    rw [nI_clamp (n := i) (by omega)]
    refine zr_sig (fun ks1 e_ks1 => ?_)
    have kh2 : ks1.1 y = zmO y (upd F 8 0) := by rw [e_ks1, zup_ne _ _ (by omega)]; exact k0
    have kh3 : ks1.1 (y + 2) = .inl (0, 656, .inl (upd (zks kp i) i (kp (i + 82)))) := by rw [e_ks1]; exact zup_at _ _ _
    have kF4 := zFr.put hFr e_ks1 (by first | omega | simp)
    refine zr_iinc (v := nI (i + 1)) (ls' := [some (.ref y), some (.ref r), some (.int (nI (i + 1)))]) dX10_keeps_46 rfl (nI_1 _) (by decide) rfl ?_
    refine zr_goto (tgt := 24) dX10_keeps_49 (by decide) ?_
    exact ih (i + 1) _ (by omega) (kF4) (kh2) (by rw [← zks_s]; exact kh3)

set_option maxHeartbeats 400000 in
set_option maxRecDepth 100000 in
theorem qX10_keeps8 {X : zX} (hX : X.1.stackTraces = false) {σ : zS} {y : Nat} {F : Nat → Int32} {r : Nat} {g kp : Nat → Int32} (h0 : σ.1 y = zmO y F) (h1 : σ.1 r = .inl (0, 82, .inl g)) (hr : r ≠ y) (hr2 : r ≠ y + 2) (h2 : σ.1 (y + 2) = .inl (0, 656, .inl kp)) (f5 : F 5 = nI 8) (f6 : F 6 = 0) : zMet X mX10_keeps yX10_keeps 1 0 0 [.ref y, .ref r] σ (zV (fun s => zFr σ s (fun q => q = y ∨ q = y + 2) ∧ s.1 y = zmO y (upd (upd F 5 8) 8 0) ∧ s.1 (y + 2) = .inl (0, 656, .inl (zcpn g (zks kp 574) 0 (82 * 7) 82)))) := by
  refine zMet_of (ls := [some (.ref y), some (.ref r), none]) rfl (by decide +kernel) rfl (fun h => by cases h) hX (Nat.le_of_ble_eq_true rfl) rfl ?_
  refine zr_aload_n dX10_keeps_0 rfl ?_
  refine zr_iconst (v := 0) dX10_keeps_1 (by decide) ?_
  refine zr_putM (v := 0) dX10_keeps_2 pX10_49 h0 (rfl) (rfl) (Nat.le_of_ble_eq_true rfl) (zms_8 _ _ _) ?_
  refine zr_sig (fun ks1 e_ks1 => ?_)
  have kh2 : ks1.1 y = zmO y (upd F 8 0) := by rw [e_ks1]; exact zup_at _ _ _
  have kh3 : ks1.1 r = .inl (0, 82, .inl g) := by rw [e_ks1, zup_ne _ _ (by omega)]; exact h1
  have kh4 : ks1.1 (y + 2) = .inl (0, 656, .inl kp) := by rw [e_ks1, zup_ne _ _ (by omega)]; exact h2
  have kF5 := zFr.put zFr.rf (P := (fun q => q = y ∨ q = y + 2)) e_ks1 (by first | omega | simp)
  refine zr_aload_n dX10_keeps_5 rfl ?_
  refine zr_getM (v := .int (F 6)) dX10_keeps_6 fX10_65 kh2 rfl ?_
  refine zr_eqi (x' := 0) (f6) ?_
  refine zr_if_eq (tgt := 13) dX10_keeps_9 (by decide) (fun c_9 => ?_) (fun c_9 => absurd (by decide) c_9)
  refine zr_aload_n dX10_keeps_13 rfl ?_
  refine zr_getM (v := .int (F 5)) dX10_keeps_14 fX10_68 kh2 rfl ?_
  refine zr_eqi (x' := nI 8) f5 ?_
  refine zr_bipush (v := 8) dX10_keeps_17 (by decide) ?_
  refine zr_icmp_ne (tgt := 62) dX10_keeps_19 (by decide) (fun c_19 => absurd ((nI_eq (a := 8) (b := 8) (by omega) (by omega)).mpr (by omega)) c_19) (fun c_19 => ?_)
  refine zr_iconst (v := 0) dX10_keeps_22 (by decide) ?_
  refine zr_istore_n (ls' := [some (.ref y), some (.ref r), some (.int 0)]) dX10_keeps_23 rfl (by decide) rfl ?_
  refine l_ks hX h0 h1 hr hr2 h2 f5 (fun s2 hF2 k02 k22 => ?_) 574 0 _ (by omega) kF5 kh2 (by rw [zks_0]; exact kh4)
  have k12 := zFr.get hF2 (by omega) h1
  refine zr_aload_n dX10_keeps_52 rfl ?_
  refine zr_dup dX10_keeps_53 rfl ?_
  refine zr_getM (v := .int (F 5)) dX10_keeps_54 fX10_68 k02 rfl ?_
  refine zr_eqi (x' := nI 8) f5 ?_
  refine zr_iconst (v := 1) dX10_keeps_57 (by decide) ?_
  refine zr_isub dX10_keeps_58 ?_
  refine zr_eqi (x' := nI (8 - 1)) (pk_sub (a := 8) (b := 1) (by omega)) ?_
  refine zr_putM (v := nI (8 - 1)) dX10_keeps_59 pX10_68 k02 (rfl) (rfl) (Nat.le_of_ble_eq_true rfl) (zms_5 _ _ _) ?_
  refine zr_sig (fun ks6 e_ks6 => ?_)
  have kh7 : ks6.1 y = zmO y (upd (upd F 5 (nI (8 - 1))) 8 0) := by rw [e_ks6]; exact zup_at _ _ _
  have kh8 : ks6.1 r = .inl (0, 82, .inl g) := by rw [e_ks6, zup_ne _ _ (by omega)]; exact k12
  have kh9 : ks6.1 (y + 2) = .inl (0, 656, .inl (zks kp 574)) := by rw [e_ks6, zup_ne _ _ (by omega)]; exact k22
  have kF10 := zFr.put hF2 e_ks6 (by first | omega | simp)
  refine zr_aload_n dX10_keeps_62 rfl ?_
  refine zr_iconst (v := 0) dX10_keeps_63 (by decide) ?_
  refine zr_aload_n dX10_keeps_64 rfl ?_
  refine zr_getM (v := .ref (y + 2)) dX10_keeps_65 fX10_13 kh7 rfl ?_
  refine zr_bipush (v := 82) dX10_keeps_68 (by decide) ?_
  refine zr_aload_n dX10_keeps_70 rfl ?_
  refine zr_getM (v := .int (nI (8 - 1))) dX10_keeps_71 fX10_68 kh7 rfl ?_
  refine zr_imul dX10_keeps_74 ?_
  refine zr_eqi (x' := nI (82 * (8 - 1))) (pk_mul 82 (8 - 1)) ?_
  refine zr_callSv [] dX10_keeps_75 vX10_71 (qX10_copies hX (p := 0) (q := 82 * (8 - 1)) kh8 (by omega) (by omega) (by omega) (by omega) (by omega) kh9) (by decide) (by decide) (by decide) rfl rfl (Nat.le_of_ble_eq_true rfl) rfl (fun s_kr11 h_kr11 => ?_)
  obtain ⟨F_kr11, g0_kr11⟩ := h_kr11
  have kh12 : s_kr11.1 y = zmO y (upd (upd F 5 (nI (8 - 1))) 8 0) := zFr.get F_kr11 (by omega) kh7
  have kh13 : s_kr11.1 r = .inl (0, 82, .inl g) := zFr.get F_kr11 (by omega) kh8
  have kF14 := zFr.tr kF10 F_kr11 (by intro q hq; omega)
  refine zr_aload_n dX10_keeps_78 rfl ?_
  refine zr_dup dX10_keeps_79 rfl ?_
  refine zr_getM (v := .int (nI (8 - 1))) dX10_keeps_80 fX10_68 kh12 rfl ?_
  refine zr_iconst (v := 1) dX10_keeps_83 (by decide) ?_
  refine zr_iadd dX10_keeps_84 ?_
  refine zr_eqi (x' := nI ((8 - 1) + 1)) (nI_add (8 - 1) 1) ?_
  refine zr_putM (v := nI ((8 - 1) + 1)) dX10_keeps_85 pX10_68 kh12 (rfl) (rfl) (Nat.le_of_ble_eq_true rfl) (zms_5 _ _ _) ?_
  refine zr_sig (fun ks15 e_ks15 => ?_)
  have kh16 : ks15.1 y = zmO y (upd (upd F 5 (nI ((8 - 1) + 1))) 8 0) := by rw [e_ks15]; exact zup_at _ _ _
  have kh17 : ks15.1 r = .inl (0, 82, .inl g) := by rw [e_ks15, zup_ne _ _ (by omega)]; exact kh13
  have kh18 : ks15.1 (y + 2) = .inl (0, 656, .inl (zcpn g (zks kp 574) 0 (82 * (8 - 1)) 82)) := by rw [e_ks15, zup_ne _ _ (by omega)]; exact g0_kr11
  have kF19 := zFr.put kF14 e_ks15 (by first | omega | simp)
  exact zr_return dX10_keeps_88 rfl (⟨rfl, kF19, kh16, kh18⟩)
  

theorem qX10_keeps {X : zX} (hX : X.1.stackTraces = false) {σ : zS} {y : Nat} {F : Nat → Int32}  {r m : Nat} {g kp : Nat → Int32} {A : zDk} {U : Nat → zDk} {w : Int32} (h0 : σ.1 y = zmO y F) (h1 : σ.1 r = .inl (0, 82, .inl g)) (hr : r ≠ y) (hr2 : r ≠ y + 2) (h2 : σ.1 (y + 2) = .inl (0, 656, .inl kp)) (f5 : F 5 = nI m) (f6 : F 6 = w) (hm : m ≤ 8) (gr : zGr A g) (hA : zDw A) (hU : zHs m U kp) (wU : ∀ t, t < m → zDw (U t)) : zMet X mX10_keeps yX10_keeps 1 0 0 [.ref y, .ref r] σ (zV (fun s => zFr σ s (fun q => q = y ∨ q = y + 2) ∧ s.1 y = zmO y (upd (upd F 5 (nI (mN w m))) 8 0) ∧ ∃ kp1, s.1 (y + 2) = .inl (0, 656, .inl kp1) ∧ zHs (mN w m) (UN w A U) kp1)) := by
  by_cases hw : w = 0
  · subst hw
    have e1 : mN 0 m = min (m + 1) 8 := if_pos rfl
    have e2 : UN 0 A U = zPu A U := if_pos rfl
    rw [e1, e2]
    by_cases h8 : m < 8
    · rw [Nat.min_eq_left (by omega)]
      refine (qX10_keeps0 hX h0 h1 hr hr2 h2 f5 f6 h8).mono (fun o s q => ?_)
      obtain ⟨a, b, c, d⟩ := q
      exact ⟨a, b, c, _, d, zHs_push hm hU wU gr hA (Or.inl ⟨rfl, h8, fun k _ => rfl⟩)⟩
    · obtain rfl : m = 8 := by omega
      refine (qX10_keeps8 hX h0 h1 hr hr2 h2 f5 f6).mono (fun o s q => ?_)
      obtain ⟨a, b, c, d⟩ := q
      exact ⟨a, b, c, _, d, zHs_push hm hU wU gr hA (Or.inr ⟨rfl, rfl, fun k hk => if_pos hk⟩)⟩
  · have e1 : mN w m = m := if_neg hw
    have e2 : UN w A U = U := if_neg hw
    rw [e1, e2]
    refine (qX10_keepsW hX h0 h1 hr hr2 h2 f5 f6 hw).mono (fun o s q => ?_)
    obtain ⟨a, b, c, d⟩ := q
    refine ⟨a, b, ?_, _, d, hU⟩
    rw [c]
    exact zmO_cg (fun k _ => by simp only [upd]; split; rfl; split; (rename_i e7; rw [e7]; exact f5); rfl)
set_option maxHeartbeats 400000 in
set_option maxRecDepth 100000 in
theorem l_pc {X : zX} (hX : X.1.stackTraces = false) {σ : zS} {y : Nat} {F : Nat → Int32} {g : Nat → Int32} {A : zDk} {i : Nat} (h0 : σ.1 y = zmO y F) (h1 : σ.1 (y + 1) = .inl (0, 82, .inl g)) (gr : zGr A g) (hA : zDw A) (hi : i < kC A) : ∀ (j t : Nat) (s : zS) (v : Int32), t + j = (kP A) → (zFr σ s (fun q => q = y ∨ q = y + 7 ∨ q = y + 9 ∨ q = y + 10)) → (s.1 y = zmO y (upd F 19 v)) → (zWa y s) → (zXa y s) → (zOa y s) → (zPf A i = zPfi A i t j) → zW X mX10_precedent 4 0 0 ((zI (fun y_ s => y_ = zPf A i ∧ ∃ v, zFr σ s (fun q => q = y ∨ q = y + 7 ∨ q = y + 9 ∨ q = y + 10) ∧ s.1 y = zmO y (upd F 19 v) ∧ zWa y s ∧ zXa y s ∧ zOa y s))) 2 [some (.ref y), some (.int (nI i)), some (.int (nI t))] [] s := by
  intro j
  induction j with
  | zero =>
    intro t s v ht hFr k0 kW kX kO hz
    obtain ⟨r0, r1, rc, rp⟩ := id gr
    obtain ⟨hC8, hP8, hW⟩ := id hA
    have k1 := zFr.get hFr (by omega) h1
    refine zr_iload_n dX10_precedent_2 rfl ?_
    refine zr_aload_n dX10_precedent_3 rfl ?_
    refine zr_getM (v := .ref (y + 1)) dX10_precedent_4 fX10_7 k0 rfl ?_
    refine zr_iconst (v := 1) dX10_precedent_7 (by decide) ?_
    refine zr_iaload dX10_precedent_8 k1 (vp_in_nI (n := 1) (by omega) (by omega)) ?_
    rw [show (1 : Int32).toNatClampNeg = 1 from by decide]
    refine zr_eqi (x' := nI (kP A)) (r1) ?_
    refine zr_icmp_ge (tgt := 35) dX10_precedent_9 (by decide) (fun c_9 => ?_) (fun c_9 => absurd ((nI_leI (a := kP A) (b := t) (by omega) (by omega)).mpr (by omega)) c_9)
    refine zr_iconst (v := -1) dX10_precedent_35 (by decide) ?_
    exact zr_ireturn dX10_precedent_36 rfl (rfl) (⟨_, rfl, hz.symm, _, hFr, k0, kW, kX, kO⟩)
  | succ j ih =>
    intro t s v ht hFr k0 kW kX kO hz
    obtain ⟨r0, r1, rc, rp⟩ := id gr
    obtain ⟨hC8, hP8, hW⟩ := id hA
    have k1 := zFr.get hFr (by omega) h1
    refine zr_iload_n dX10_precedent_2 rfl ?_
    refine zr_aload_n dX10_precedent_3 rfl ?_
    refine zr_getM (v := .ref (y + 1)) dX10_precedent_4 fX10_7 k0 rfl ?_
    refine zr_iconst (v := 1) dX10_precedent_7 (by decide) ?_
    refine zr_iaload dX10_precedent_8 k1 (vp_in_nI (n := 1) (by omega) (by omega)) ?_
    rw [show (1 : Int32).toNatClampNeg = 1 from by decide]
    refine zr_eqi (x' := nI (kP A)) (r1) ?_
    refine zr_icmp_ge (tgt := 35) dX10_precedent_9 (by decide) (fun c_9 => absurd c_9 (fun h => absurd ((nI_leI (a := kP A) (b := t) (by omega) (by omega)).mp h) (by omega))) (fun c_9 => ?_)
    refine zr_aload_n dX10_precedent_12 rfl ?_
    refine zr_iload_n dX10_precedent_13 rfl ?_
    refine zr_pSi [.ref y] dX10_precedent_14 vX10_207 (qX10_precedentAt hX (i := t)) (by decide) (by decide) (by decide) rfl rfl (Nat.le_of_ble_eq_true rfl) rfl ?_
    refine zr_iload_n dX10_precedent_17 rfl ?_
    refine zr_pSi [.int (nI (42 + 5 * t)), .ref y] dX10_precedent_18 vX10_138 (qX10_caseAt hX (i := i)) (by decide) (by decide) (by decide) rfl rfl (Nat.le_of_ble_eq_true rfl) rfl ?_
    refine zr_callVi [] dX10_precedent_21 vX10_194 (qM_same hX k0 k1 (rp t (by omega)).1 (hW (zmk A t) (hA.mk (by omega)).1).1 (by omega) (gr.wp (by omega)) (rc i (by omega)).1 (hW i (by omega)).1 (by omega) (gr.wd (by omega)) kW kX kO) k0 (by decide) (by decide) (by decide) rfl rfl (Nat.le_of_ble_eq_true rfl) (by decide) rfl (fun kr1 s_kr1 h_kr1 => ?_)
    obtain ⟨e_kr1, F_kr1, g0_kr1, r0_kr1, r1_kr1, r2_kr1⟩ := h_kr1
    have kh2 : s_kr1.1 (y + 1) = .inl (0, 82, .inl g) := zFr.get F_kr1 (by omega) k1
    have kF3 := zFr.tr hFr F_kr1 (by intro q hq; omega)
    obtain rfl := e_kr1.symm
    refine zr_if_eq (tgt := 29) dX10_precedent_24 (by decide) (fun c_24 => ?_) (fun c_24 => ?_)
    · refine zr_iinc (v := nI (t + 1)) (ls' := [some (.ref y), some (.int (nI i)), some (.int (nI (t + 1)))]) dX10_precedent_29 rfl (nI_1 _) (by decide) rfl ?_
      refine zr_goto (tgt := 2) dX10_precedent_32 (by decide) ?_
      exact ih (t + 1) _ _ (by omega) (kF3) (g0_kr1) (r0_kr1) (r1_kr1) (r2_kr1) (by rw [hz]; simp only [zPfi]; rw [zSmb_sym]; exact if_neg (ite10.mp c_24))
    · refine zr_iload_n dX10_precedent_27 rfl ?_
      exact zr_ireturn dX10_precedent_28 rfl (rfl) (⟨_, rfl, by rw [hz]; simp only [zPfi]; rw [zSmb_sym]; exact (if_pos (Classical.not_not.mp (fun q => c_24 (ite10.mpr q)))).symm, _, kF3, g0_kr1, r0_kr1, r1_kr1, r2_kr1⟩)

set_option maxHeartbeats 400000 in
set_option maxRecDepth 100000 in
theorem qX10_precedent {X : zX} (hX : X.1.stackTraces = false) {σ : zS} {y : Nat} {F : Nat → Int32} {g : Nat → Int32} {A : zDk} {i : Nat} (h0 : σ.1 y = zmO y F) (h1 : σ.1 (y + 1) = .inl (0, 82, .inl g)) (gr : zGr A g) (hA : zDw A) (hi : i < kC A) (hWa : zWa y σ) (hX9 : zXa y σ) (hOt : zOa y σ) : zMet X mX10_precedent yX10_precedent 4 0 0 [.ref y, .int (nI i)] σ (zI (fun y_ s => y_ = zPf A i ∧ ∃ v, zFr σ s (fun q => q = y ∨ q = y + 7 ∨ q = y + 9 ∨ q = y + 10) ∧ s.1 y = zmO y (upd F 19 v) ∧ zWa y s ∧ zXa y s ∧ zOa y s)) := by
  refine zMet_of (ls := [some (.ref y), some (.int (nI i)), none]) rfl (by decide +kernel) rfl (fun h => by cases h) hX (Nat.le_of_ble_eq_true rfl) rfl ?_
  refine zr_iconst (v := 0) dX10_precedent_0 (by decide) ?_
  refine zr_istore_n (ls' := [some (.ref y), some (.int (nI i)), some (.int 0)]) dX10_precedent_1 rfl (by decide) rfl ?_
  exact l_pc hX h0 h1 gr hA hi (kP A) 0 _ (F 19) (by omega) zFr.rf (by rw [h0]; exact zmO_cg (fun k _ => by simp only [upd]; split; (rename_i e7; rw [e7]); rfl)) hWa hX9 hOt rfl

theorem zPf_at (A : zDk) (k : Nat) : zPf A k = -1 ∨ ∃ p, p < kP A ∧ zPf A k = nI p := by
  rcases zPfi_at A k (kP A) 0 with h | ⟨p, h1, h2, h3, h4⟩
  · exact Or.inl h
  · exact Or.inr ⟨p, by omega, h3⟩
theorem zPf_ge {A : zDk} {k : Nat} (hP : kP A ≤ 8) : 0 ≤ zPf A k ↔ ¬ zPf A k = -1 := by
  rcases zPf_at A k with h | ⟨p, h1, h2⟩
  · rw [h]; exact ⟨fun q => absurd q (by decide), fun q => absurd rfl q⟩
  · rw [h2]; exact ⟨fun _ => nI_ne p (by omega), fun _ => Int32.not_lt.mp (nI_pos (by omega))⟩
set_option maxHeartbeats 400000 in
set_option maxRecDepth 100000 in
theorem qX10_findPrecedent {X : zX} (hX : X.1.stackTraces = false) {σ : zS} {y : Nat} {w tm cd dn : Int32} {K : zDk} {A S : zDk} {m : Nat} {U : Nat → zDk} {n : Nat} {T : Nat → Int32} {ll : Nat} {ln : Nat → Int32} {hs kf ld dt dc : Int32} {i : Nat} (hM : zMo y w tm cd dn K A S m U n T ll ln hs kf ld dt dc σ) (gA : zGd A) (hi : i < kC A) (hz : ¬ zPf A i = -1) : zMet X mX10_findPrecedent yX10_findPrecedent 5 0 0 [.ref y, .int (nI i)] σ (zI (fun y_ s => y_ = zPf A i ∧ zFr σ s (zMq y) ∧ zMo y w tm 0 0 K A S m U n T ll ln hs kf ld dt dc s)) := by
  refine zMet_of (ls := [some (.ref y), some (.int (nI i)), none]) rfl (by decide +kernel) rfl (fun h => by cases h) hX (Nat.le_of_ble_eq_true rfl) rfl ?_
  obtain ⟨F, g, kp, sv, bf, ip, sg, td, h0, hf, h1, h2, h3, h4, h5, h6, h11, hWa, hC, hX9, hOt, gr, gS, gK, hm8, gU, hn60, hT, hll, hln⟩ := id hM
  obtain ⟨f4, f5, f6, f7, f8, f9, f10, f11, f13, f14, f16, f27⟩ := id hf
  have hA := gA.1
  obtain ⟨r0, r1, rc, rp⟩ := id gr
  obtain ⟨hC8, hP8, hW⟩ := id hA
  refine zr_aload_n dX10_findPrecedent_0 rfl ?_
  refine zr_iload_n dX10_findPrecedent_1 rfl ?_
  refine zr_callVi [] dX10_findPrecedent_2 vX10_155 (qX10_isNone hX (i := i) h0 h1 r0 (by omega) hi) h0 (by decide) (by decide) (by decide) rfl rfl (Nat.le_of_ble_eq_true rfl) (by decide) rfl (fun kr1 s_kr1 h_kr1 => ?_)
  obtain ⟨e_kr1, F_kr1, g0_kr1⟩ := h_kr1
  have kh2 : s_kr1.1 (y + 1) = .inl (0, 82, .inl g) := zFr.get F_kr1 (by omega) h1
  have kh3 : s_kr1.1 (y + 2) = .inl (0, 656, .inl kp) := zFr.get F_kr1 (by omega) h2
  have kh4 : s_kr1.1 (y + 3) = .inl (0, 82, .inl sv) := zFr.get F_kr1 (by omega) h3
  have kh5 : s_kr1.1 (y + 4) = .inl (0, 82, .inl bf) := zFr.get F_kr1 (by omega) h4
  have kh6 : s_kr1.1 (y + 5) = .inl (0, 60, .inl ip) := zFr.get F_kr1 (by omega) h5
  have kh7 : s_kr1.1 (y + 6) = .inl (1, 400, .inl sg) := zFr.get F_kr1 (by omega) h6
  have kh8 : s_kr1.1 (y + 11) = .inl (0, 93, .inl td) := zFr.get F_kr1 (by omega) h11
  have kR9 : zWa y s_kr1 := zWa.fr hWa F_kr1 (by intro q h1 h2 h3; (try simp only [zIn, zJf] at h3); omega)
  have kR10 : zCy y s_kr1 := zCy.fr hC F_kr1 (by intro q h1 h2 h3; (try simp only [zIn, zJf] at h3); omega)
  have kR11 : zXa y s_kr1 := zXa.fr hX9 F_kr1 (by intro q h1 h2 h3; (try simp only [zIn, zJf] at h3); omega)
  have kR12 : zOa y s_kr1 := zOa.fr hOt F_kr1 (by intro q h1 h2 h3; (try simp only [zIn, zJf] at h3); omega)
  have kF13 := zFr.tr zFr.rf (P := zMq y) F_kr1 (by intro q hq; unfold zMq; omega)
  obtain rfl := e_kr1.symm
  refine zr_if_eq (tgt := 10) dX10_findPrecedent_5 (by decide) (fun c_5 => ?_) (fun c_5 => absurd (by decide) c_5)
  refine zr_aload_n dX10_findPrecedent_10 rfl ?_
  refine zr_iload_n dX10_findPrecedent_11 rfl ?_
  refine zr_callVi [] dX10_findPrecedent_12 vX10_213 (qX10_precedent hX (i := i) g0_kr1 kh2 gr hA (by omega) kR9 kR11 kR12) g0_kr1 (by decide) (by decide) (by decide) rfl rfl (Nat.le_of_ble_eq_true rfl) (by decide) rfl (fun r1 s1 h_ => ?_)
  obtain ⟨rfl, v1, F1, g0, kW1, kX1, kO1⟩ := h_
  have kh14 : s1.1 (y + 1) = .inl (0, 82, .inl g) := zFr.get F1 (by omega) kh2
  have kh15 : s1.1 (y + 2) = .inl (0, 656, .inl kp) := zFr.get F1 (by omega) kh3
  have kh16 : s1.1 (y + 3) = .inl (0, 82, .inl sv) := zFr.get F1 (by omega) kh4
  have kh17 : s1.1 (y + 4) = .inl (0, 82, .inl bf) := zFr.get F1 (by omega) kh5
  have kh18 : s1.1 (y + 5) = .inl (0, 60, .inl ip) := zFr.get F1 (by omega) kh6
  have kh19 : s1.1 (y + 6) = .inl (1, 400, .inl sg) := zFr.get F1 (by omega) kh7
  have kh20 : s1.1 (y + 11) = .inl (0, 93, .inl td) := zFr.get F1 (by omega) kh8
  have kR21 := zCy.fr kR10 F1 (by intro q a b c; omega)
  have kF22 := zFr.tr kF13 F1 (by intro q hq; unfold zMq; omega)
  refine zr_istore_n (ls' := [some (.ref y), some (.int (nI i)), some (.int ((zPf A i)))]) dX10_findPrecedent_15 rfl (by decide) rfl ?_
  refine zr_aload_n dX10_findPrecedent_16 rfl ?_
  refine zr_iload_n dX10_findPrecedent_17 rfl ?_
  refine zr_if_ge (tgt := 25) dX10_findPrecedent_18 (by decide) (fun c_18 => ?_) (fun c_18 => absurd ((zPf_ge hP8).mpr hz) c_18)
  refine zr_iconst (v := 0) dX10_findPrecedent_25 (by decide) ?_
  refine zr_callVi [] dX10_findPrecedent_26 vX10_135 (qX10_fails hX (p := 0) g0) g0 (by decide) (by decide) (by decide) rfl rfl (Nat.le_of_ble_eq_true rfl) (by decide) rfl (fun kr23 s_kr23 h_kr23 => ?_)
  obtain ⟨e_kr23, F_kr23, g0_kr23⟩ := h_kr23
  have kh24 : s_kr23.1 (y + 1) = .inl (0, 82, .inl g) := zFr.get F_kr23 (by omega) kh14
  have kh25 : s_kr23.1 (y + 2) = .inl (0, 656, .inl kp) := zFr.get F_kr23 (by omega) kh15
  have kh26 : s_kr23.1 (y + 3) = .inl (0, 82, .inl sv) := zFr.get F_kr23 (by omega) kh16
  have kh27 : s_kr23.1 (y + 4) = .inl (0, 82, .inl bf) := zFr.get F_kr23 (by omega) kh17
  have kh28 : s_kr23.1 (y + 5) = .inl (0, 60, .inl ip) := zFr.get F_kr23 (by omega) kh18
  have kh29 : s_kr23.1 (y + 6) = .inl (1, 400, .inl sg) := zFr.get F_kr23 (by omega) kh19
  have kh30 : s_kr23.1 (y + 11) = .inl (0, 93, .inl td) := zFr.get F_kr23 (by omega) kh20
  have kR31 : zWa y s_kr23 := zWa.fr kW1 F_kr23 (by intro q h1 h2 h3; (try simp only [zIn, zJf] at h3); omega)
  have kR32 : zXa y s_kr23 := zXa.fr kX1 F_kr23 (by intro q h1 h2 h3; (try simp only [zIn, zJf] at h3); omega)
  have kR33 : zOa y s_kr23 := zOa.fr kO1 F_kr23 (by intro q h1 h2 h3; (try simp only [zIn, zJf] at h3); omega)
  have kR34 : zCy y s_kr23 := zCy.fr kR21 F_kr23 (by intro q h1 h2 h3; (try simp only [zIn, zJf] at h3); omega)
  have kF35 := zFr.tr kF22 F_kr23 (by intro q hq; unfold zMq; omega)
  replace e_kr23 := e_kr23.trans (if_pos (by decide) : (_ : Int32) = 0)
  obtain rfl := e_kr23.symm
  refine zr_if_eq (tgt := 36) dX10_findPrecedent_29 (by decide) (fun c_29 => ?_) (fun c_29 => absurd (by decide) c_29)
  refine zr_iload_n dX10_findPrecedent_36 rfl ?_
  exact zr_ireturn dX10_findPrecedent_37 rfl (rfl) (⟨_, rfl, rfl, kF35, ⟨_, _, _, _, _, _, _, _, g0_kr23, ⟨f4, f5, f6, rfl, rfl, f9, f10, f11, f13, f14, f16, f27⟩, kh24, kh25, kh26, kh27, kh28, kh29, kh30, kR31, kR34, kR32, kR33, gr, gS, gK, hm8, gU, hn60, hT, hll, hln⟩⟩)

set_option maxHeartbeats 400000 in
set_option maxRecDepth 100000 in
theorem qX10_findPrecedentN {X : zX} (hX : X.1.stackTraces = false) {σ : zS} {y : Nat} {w tm cd dn : Int32} {K : zDk} {A S : zDk} {m : Nat} {U : Nat → zDk} {n : Nat} {T : Nat → Int32} {ll : Nat} {ln : Nat → Int32} {hs kf ld dt dc : Int32} {i : Nat} (hM : zMo y w tm cd dn K A S m U n T ll ln hs kf ld dt dc σ) (gA : zGd A) (hi : i < kC A) (hz : zPf A i = -1) : zMet X mX10_findPrecedent yX10_findPrecedent 5 0 0 [.ref y, .int (nI i)] σ (zI (fun y_ s => True ∧ zFr σ s (zMq y) ∧ zMo y w tm 2 0 K A S m U n T ll ln hs kf ld dt dc s)) := by
  refine zMet_of (ls := [some (.ref y), some (.int (nI i)), none]) rfl (by decide +kernel) rfl (fun h => by cases h) hX (Nat.le_of_ble_eq_true rfl) rfl ?_
  obtain ⟨F, g, kp, sv, bf, ip, sg, td, h0, hf, h1, h2, h3, h4, h5, h6, h11, hWa, hC, hX9, hOt, gr, gS, gK, hm8, gU, hn60, hT, hll, hln⟩ := id hM
  obtain ⟨f4, f5, f6, f7, f8, f9, f10, f11, f13, f14, f16, f27⟩ := id hf
  have hA := gA.1
  obtain ⟨r0, r1, rc, rp⟩ := id gr
  obtain ⟨hC8, hP8, hW⟩ := id hA
  refine zr_aload_n dX10_findPrecedent_0 rfl ?_
  refine zr_iload_n dX10_findPrecedent_1 rfl ?_
  refine zr_callVi [] dX10_findPrecedent_2 vX10_155 (qX10_isNone hX (i := i) h0 h1 r0 (by omega) hi) h0 (by decide) (by decide) (by decide) rfl rfl (Nat.le_of_ble_eq_true rfl) (by decide) rfl (fun kr1 s_kr1 h_kr1 => ?_)
  obtain ⟨e_kr1, F_kr1, g0_kr1⟩ := h_kr1
  have kh2 : s_kr1.1 (y + 1) = .inl (0, 82, .inl g) := zFr.get F_kr1 (by omega) h1
  have kh3 : s_kr1.1 (y + 2) = .inl (0, 656, .inl kp) := zFr.get F_kr1 (by omega) h2
  have kh4 : s_kr1.1 (y + 3) = .inl (0, 82, .inl sv) := zFr.get F_kr1 (by omega) h3
  have kh5 : s_kr1.1 (y + 4) = .inl (0, 82, .inl bf) := zFr.get F_kr1 (by omega) h4
  have kh6 : s_kr1.1 (y + 5) = .inl (0, 60, .inl ip) := zFr.get F_kr1 (by omega) h5
  have kh7 : s_kr1.1 (y + 6) = .inl (1, 400, .inl sg) := zFr.get F_kr1 (by omega) h6
  have kh8 : s_kr1.1 (y + 11) = .inl (0, 93, .inl td) := zFr.get F_kr1 (by omega) h11
  have kR9 : zWa y s_kr1 := zWa.fr hWa F_kr1 (by intro q h1 h2 h3; (try simp only [zIn, zJf] at h3); omega)
  have kR10 : zCy y s_kr1 := zCy.fr hC F_kr1 (by intro q h1 h2 h3; (try simp only [zIn, zJf] at h3); omega)
  have kR11 : zXa y s_kr1 := zXa.fr hX9 F_kr1 (by intro q h1 h2 h3; (try simp only [zIn, zJf] at h3); omega)
  have kR12 : zOa y s_kr1 := zOa.fr hOt F_kr1 (by intro q h1 h2 h3; (try simp only [zIn, zJf] at h3); omega)
  have kF13 := zFr.tr zFr.rf (P := zMq y) F_kr1 (by intro q hq; unfold zMq; omega)
  obtain rfl := e_kr1.symm
  refine zr_if_eq (tgt := 10) dX10_findPrecedent_5 (by decide) (fun c_5 => ?_) (fun c_5 => absurd (by decide) c_5)
  refine zr_aload_n dX10_findPrecedent_10 rfl ?_
  refine zr_iload_n dX10_findPrecedent_11 rfl ?_
  refine zr_callVi [] dX10_findPrecedent_12 vX10_213 (qX10_precedent hX (i := i) g0_kr1 kh2 gr hA (by omega) kR9 kR11 kR12) g0_kr1 (by decide) (by decide) (by decide) rfl rfl (Nat.le_of_ble_eq_true rfl) (by decide) rfl (fun r1 s1 h_ => ?_)
  obtain ⟨rfl, v1, F1, g0, kW1, kX1, kO1⟩ := h_
  have kh14 : s1.1 (y + 1) = .inl (0, 82, .inl g) := zFr.get F1 (by omega) kh2
  have kh15 : s1.1 (y + 2) = .inl (0, 656, .inl kp) := zFr.get F1 (by omega) kh3
  have kh16 : s1.1 (y + 3) = .inl (0, 82, .inl sv) := zFr.get F1 (by omega) kh4
  have kh17 : s1.1 (y + 4) = .inl (0, 82, .inl bf) := zFr.get F1 (by omega) kh5
  have kh18 : s1.1 (y + 5) = .inl (0, 60, .inl ip) := zFr.get F1 (by omega) kh6
  have kh19 : s1.1 (y + 6) = .inl (1, 400, .inl sg) := zFr.get F1 (by omega) kh7
  have kh20 : s1.1 (y + 11) = .inl (0, 93, .inl td) := zFr.get F1 (by omega) kh8
  have kR21 := zCy.fr kR10 F1 (by intro q a b c; omega)
  have kF22 := zFr.tr kF13 F1 (by intro q hq; unfold zMq; omega)
  refine zr_istore_n (ls' := [some (.ref y), some (.int (nI i)), some (.int ((zPf A i)))]) dX10_findPrecedent_15 rfl (by decide) rfl ?_
  refine zr_aload_n dX10_findPrecedent_16 rfl ?_
  refine zr_iload_n dX10_findPrecedent_17 rfl ?_
  refine zr_if_ge (tgt := 25) dX10_findPrecedent_18 (by decide) (fun c_18 => absurd c_18 (fun q => (zPf_ge hP8).mp q hz)) (fun c_18 => ?_)
  refine zr_iconst (v := 2) dX10_findPrecedent_21 (by decide) ?_
  refine zr_goto (tgt := 26) dX10_findPrecedent_22 (by decide) ?_
  refine zr_callVi [] dX10_findPrecedent_26 vX10_135 (qX10_fails hX (p := 2) g0) g0 (by decide) (by decide) (by decide) rfl rfl (Nat.le_of_ble_eq_true rfl) (by decide) rfl (fun kr23 s_kr23 h_kr23 => ?_)
  obtain ⟨e_kr23, F_kr23, g0_kr23⟩ := h_kr23
  have kh24 : s_kr23.1 (y + 1) = .inl (0, 82, .inl g) := zFr.get F_kr23 (by omega) kh14
  have kh25 : s_kr23.1 (y + 2) = .inl (0, 656, .inl kp) := zFr.get F_kr23 (by omega) kh15
  have kh26 : s_kr23.1 (y + 3) = .inl (0, 82, .inl sv) := zFr.get F_kr23 (by omega) kh16
  have kh27 : s_kr23.1 (y + 4) = .inl (0, 82, .inl bf) := zFr.get F_kr23 (by omega) kh17
  have kh28 : s_kr23.1 (y + 5) = .inl (0, 60, .inl ip) := zFr.get F_kr23 (by omega) kh18
  have kh29 : s_kr23.1 (y + 6) = .inl (1, 400, .inl sg) := zFr.get F_kr23 (by omega) kh19
  have kh30 : s_kr23.1 (y + 11) = .inl (0, 93, .inl td) := zFr.get F_kr23 (by omega) kh20
  have kR31 : zWa y s_kr23 := zWa.fr kW1 F_kr23 (by intro q h1 h2 h3; (try simp only [zIn, zJf] at h3); omega)
  have kR32 : zXa y s_kr23 := zXa.fr kX1 F_kr23 (by intro q h1 h2 h3; (try simp only [zIn, zJf] at h3); omega)
  have kR33 : zOa y s_kr23 := zOa.fr kO1 F_kr23 (by intro q h1 h2 h3; (try simp only [zIn, zJf] at h3); omega)
  have kR34 : zCy y s_kr23 := zCy.fr kR21 F_kr23 (by intro q h1 h2 h3; (try simp only [zIn, zJf] at h3); omega)
  have kF35 := zFr.tr kF22 F_kr23 (by intro q hq; unfold zMq; omega)
  replace e_kr23 := e_kr23.trans (if_neg (by decide) : (_ : Int32) = 1)
  obtain rfl := e_kr23.symm
  refine zr_if_eq (tgt := 36) dX10_findPrecedent_29 (by decide) (fun c_29 => absurd c_29 (by decide)) (fun c_29 => ?_)
  refine zr_iconst (v := 0) dX10_findPrecedent_32 (by decide) ?_
  refine zr_goto (tgt := 37) dX10_findPrecedent_33 (by decide) ?_
  exact zr_ireturn dX10_findPrecedent_37 rfl (rfl) (⟨_, rfl, trivial, kF35, ⟨_, _, _, _, _, _, _, _, g0_kr23, ⟨f4, f5, f6, rfl, rfl, f9, f10, f11, f13, f14, f16, f27⟩, kh24, kh25, kh26, kh27, kh28, kh29, kh30, kR31, kR34, kR32, kR33, gr, gS, gK, hm8, gU, hn60, hT, hll, hln⟩⟩)

set_option maxHeartbeats 400000 in
set_option maxRecDepth 100000 in
theorem qX10_findPrecedentX {X : zX} (hX : X.1.stackTraces = false) {σ : zS} {y : Nat} {w tm cd dn : Int32} {K : zDk} {A S : zDk} {m : Nat} {U : Nat → zDk} {n : Nat} {T : Nat → Int32} {ll : Nat} {ln : Nat → Int32} {hs kf ld dt dc : Int32} {p : Int32} (hM : zMo y w tm cd dn K A S m U n T ll ln hs kf ld dt dc σ) (gA : zGd A) (hno : ¬ (¬ p < 0 ∧ p < nI (kC A))) : zMet X mX10_findPrecedent yX10_findPrecedent 5 0 0 [.ref y, .int p] σ (zI (fun y_ s => True ∧ zFr σ s (zMq y) ∧ zMo y w tm 1 0 K A S m U n T ll ln hs kf ld dt dc s)) := by
  refine zMet_of (ls := [some (.ref y), some (.int p), none]) rfl (by decide +kernel) rfl (fun h => by cases h) hX (Nat.le_of_ble_eq_true rfl) rfl ?_
  obtain ⟨F, g, kp, sv, bf, ip, sg, td, h0, hf, h1, h2, h3, h4, h5, h6, h11, hWa, hC, hX9, hOt, gr, gS, gK, hm8, gU, hn60, hT, hll, hln⟩ := id hM
  obtain ⟨f4, f5, f6, f7, f8, f9, f10, f11, f13, f14, f16, f27⟩ := id hf
  have hA := gA.1
  obtain ⟨r0, r1, rc, rp⟩ := id gr
  obtain ⟨hC8, hP8, hW⟩ := id hA
  refine zr_aload_n dX10_findPrecedent_0 rfl ?_
  refine zr_iload_n dX10_findPrecedent_1 rfl ?_
  refine zr_callVi [] dX10_findPrecedent_2 vX10_155 (qX10_isNoneX hX h0 h1 r0 (by omega) hno) h0 (by decide) (by decide) (by decide) rfl rfl (Nat.le_of_ble_eq_true rfl) (by decide) rfl (fun kr1 s_kr1 h_kr1 => ?_)
  obtain ⟨e_kr1, F_kr1, g0_kr1⟩ := h_kr1
  have kh2 : s_kr1.1 (y + 1) = .inl (0, 82, .inl g) := zFr.get F_kr1 (by omega) h1
  have kh3 : s_kr1.1 (y + 2) = .inl (0, 656, .inl kp) := zFr.get F_kr1 (by omega) h2
  have kh4 : s_kr1.1 (y + 3) = .inl (0, 82, .inl sv) := zFr.get F_kr1 (by omega) h3
  have kh5 : s_kr1.1 (y + 4) = .inl (0, 82, .inl bf) := zFr.get F_kr1 (by omega) h4
  have kh6 : s_kr1.1 (y + 5) = .inl (0, 60, .inl ip) := zFr.get F_kr1 (by omega) h5
  have kh7 : s_kr1.1 (y + 6) = .inl (1, 400, .inl sg) := zFr.get F_kr1 (by omega) h6
  have kh8 : s_kr1.1 (y + 11) = .inl (0, 93, .inl td) := zFr.get F_kr1 (by omega) h11
  have kR9 : zWa y s_kr1 := zWa.fr hWa F_kr1 (by intro q h1 h2 h3; (try simp only [zIn, zJf] at h3); omega)
  have kR10 : zCy y s_kr1 := zCy.fr hC F_kr1 (by intro q h1 h2 h3; (try simp only [zIn, zJf] at h3); omega)
  have kR11 : zXa y s_kr1 := zXa.fr hX9 F_kr1 (by intro q h1 h2 h3; (try simp only [zIn, zJf] at h3); omega)
  have kR12 : zOa y s_kr1 := zOa.fr hOt F_kr1 (by intro q h1 h2 h3; (try simp only [zIn, zJf] at h3); omega)
  have kF13 := zFr.tr zFr.rf (P := zMq y) F_kr1 (by intro q hq; unfold zMq; omega)
  obtain rfl := e_kr1.symm
  refine zr_if_eq (tgt := 10) dX10_findPrecedent_5 (by decide) (fun c_5 => absurd c_5 (by decide)) (fun c_5 => ?_)
  refine zr_iconst (v := 0) dX10_findPrecedent_8 (by decide) ?_
  exact zr_ireturn dX10_findPrecedent_9 rfl (rfl) (⟨_, rfl, trivial, kF13, ⟨_, _, _, _, _, _, _, _, g0_kr1, ⟨f4, f5, f6, rfl, rfl, f9, f10, f11, f13, f14, f16, f27⟩, kh2, kh3, kh4, kh5, kh6, kh7, kh8, kR9, kR10, kR11, kR12, gr, gS, gK, hm8, gU, hn60, hT, hll, hln⟩⟩)

theorem zSum_b {f : Nat → Int32} : ∀ {n : Nat}, n ≤ 1000 → (∀ k, k < n → zLt (f k)) → -(n : Int) ≤ (zSum f n).toInt ∧ (zSum f n).toInt ≤ n
  | 0, _, _ => ⟨by show -((0 : Nat) : Int) ≤ (0 : Int32).toInt; decide, by show (0 : Int32).toInt ≤ ((0 : Nat) : Int); decide⟩
  | n + 1, hn, h => by
    obtain ⟨a, b⟩ := zSum_b (n := n) (by omega) (fun k hk => h k (by omega))
    simp only [zSum]
    rcases zLt_sg (h n (by omega)) with ⟨-, e⟩ | ⟨-, e⟩
    · rw [e, Int32.toInt_add, show (-1 : Int32).toInt = -1 from by decide, Int.bmod_def]; omega
    · rw [e, Int32.toInt_add, show (1 : Int32).toInt = 1 from by decide, Int.bmod_def]; omega
theorem zix_2 {x : Int32} (h : -1000 ≤ x.toInt ∧ x.toInt ≤ 1000) : zix x ≤ 2 ↔ ¬ (2 < x ∨ x < -2) := by
  have e2 : 2 < x ↔ 2 < x.toInt := by rw [Int32.lt_iff_toInt_lt, show (2 : Int32).toInt = 2 from by decide]
  have e3 : x < -2 ↔ x.toInt < -2 := by rw [Int32.lt_iff_toInt_lt, show (-2 : Int32).toInt = -2 from by decide]
  have e4 : x < 0 ↔ x.toInt < 0 := by rw [Int32.lt_iff_toInt_lt, show (0 : Int32).toInt = 0 from by decide]
  rw [e2, e3]
  unfold zix
  by_cases q : x < 0
  · have q2 := e4.mp q
    rw [if_pos q, Int32.le_iff_toInt_le, Int32.toInt_neg, Int.bmod_def, show (2 : Int32).toInt = 2 from by decide]; omega
  · have q2 := mt e4.mpr q
    rw [if_neg q, Int32.le_iff_toInt_le, show (2 : Int32).toInt = 2 from by decide]; omega
set_option maxHeartbeats 400000 in
set_option maxRecDepth 100000 in
theorem qX10_isTwisted {X : zX} (hX : X.1.stackTraces = false) {σ : zS} {y : Nat} {F : Nat → Int32} {g : Nat → Int32} {A : zDk} {i : Nat} (h0 : σ.1 y = zmO y F) (h1 : σ.1 (y + 1) = .inl (0, 82, .inl g)) (gr : zGr A g) (hA : zDw A) (hi : i < kC A) : zMet X mX10_isTwisted yX10_isTwisted 3 0 0 [.ref y, .int (nI i)] σ (zI (fun y_ s_ => y_ = zTg A i ∧ s_ = σ)) := by
  refine zMet_of (ls := [some (.ref y), some (.int (nI i)), none]) rfl (by decide +kernel) rfl (fun h => by cases h) hX (Nat.le_of_ble_eq_true rfl) rfl ?_
  obtain ⟨r0, r1, rc, rp⟩ := id gr
  obtain ⟨hC8, hP8, hW⟩ := id hA
  have hb := zSum_b (f := kL A i) (n := kN A i) (by have := (hW i (by omega)).1; omega) (hW i (by omega)).2.1
  have n16 := (hW i (by omega)).1
  replace hb : -1000 ≤ (zSum (kL A i) (kN A i)).toInt ∧ (zSum (kL A i) (kN A i)).toInt ≤ 1000 := by omega
  refine zr_aload_n dX10_isTwisted_0 rfl ?_
  refine zr_iload_n dX10_isTwisted_1 rfl ?_
  refine zr_pVi [] dX10_isTwisted_2 vX10_177 (qX10_twist hX (i := i) h0 h1 gr hA (by omega)) h0 (by decide) (by decide) (by decide) rfl rfl (Nat.le_of_ble_eq_true rfl) (by decide) rfl ?_
  refine zr_pSi [] dX10_isTwisted_5 vX10_97 (qX10_size hX (v := (zSum (kL A i) (kN A i)))) (by decide) (by decide) (by decide) rfl rfl (Nat.le_of_ble_eq_true rfl) rfl ?_
  refine zr_iconst (v := 2) dX10_isTwisted_8 (by decide) ?_
  refine zr_icmp_le (tgt := 14) dX10_isTwisted_9 (by decide) (fun c_9 => ?_) (fun c_9 => ?_)
  · refine zr_iconst (v := 1) dX10_isTwisted_14 (by decide) ?_
    refine zr_istore_n (ls' := [some (.ref y), some (.int (nI i)), some (.int 1)]) dX10_isTwisted_15 rfl (by decide) rfl ?_
    refine zr_iload_n dX10_isTwisted_16 rfl ?_
    refine zr_iconst (v := 5) dX10_isTwisted_17 (by decide) ?_
    refine zr_icmp_gt (tgt := 39) dX10_isTwisted_18 (by decide) (fun c_18 => absurd c_18 (by decide)) (fun c_18 => ?_)
    refine zr_aload_n dX10_isTwisted_21 rfl ?_
    refine zr_iload_n dX10_isTwisted_22 rfl ?_
    refine zr_iload_n dX10_isTwisted_23 rfl ?_
    refine zr_pVi [] dX10_isTwisted_24 vX10_183 (qX10_end hX (i := i) (p := 1) h0 h1 gr hA (by omega)) h0 (by decide) (by decide) (by decide) rfl rfl (Nat.le_of_ble_eq_true rfl) (by decide) rfl ?_
    refine zr_iload_n dX10_isTwisted_27 rfl ?_
    refine zr_icmp_eq (tgt := 33) dX10_isTwisted_28 (by decide) (fun c_28 => ?_) (fun c_28 => ?_)
    · have d1 := c_28
      refine zr_iinc (v := 2) (ls' := [some (.ref y), some (.int (nI i)), some (.int 2)]) dX10_isTwisted_33 rfl (by decide) (by decide) rfl ?_
      refine zr_goto (tgt := 16) dX10_isTwisted_36 (by decide) ?_
      refine zr_iload_n dX10_isTwisted_16 rfl ?_
      refine zr_iconst (v := 5) dX10_isTwisted_17 (by decide) ?_
      refine zr_icmp_gt (tgt := 39) dX10_isTwisted_18 (by decide) (fun c_18 => absurd c_18 (by decide)) (fun c_18 => ?_)
      refine zr_aload_n dX10_isTwisted_21 rfl ?_
      refine zr_iload_n dX10_isTwisted_22 rfl ?_
      refine zr_iload_n dX10_isTwisted_23 rfl ?_
      refine zr_pVi [] dX10_isTwisted_24 vX10_183 (qX10_end hX (i := i) (p := 2) h0 h1 gr hA (by omega)) h0 (by decide) (by decide) (by decide) rfl rfl (Nat.le_of_ble_eq_true rfl) (by decide) rfl ?_
      refine zr_iload_n dX10_isTwisted_27 rfl ?_
      refine zr_icmp_eq (tgt := 33) dX10_isTwisted_28 (by decide) (fun c_28 => ?_) (fun c_28 => ?_)
      · have d2 := c_28
        refine zr_iinc (v := 3) (ls' := [some (.ref y), some (.int (nI i)), some (.int 3)]) dX10_isTwisted_33 rfl (by decide) (by decide) rfl ?_
        refine zr_goto (tgt := 16) dX10_isTwisted_36 (by decide) ?_
        refine zr_iload_n dX10_isTwisted_16 rfl ?_
        refine zr_iconst (v := 5) dX10_isTwisted_17 (by decide) ?_
        refine zr_icmp_gt (tgt := 39) dX10_isTwisted_18 (by decide) (fun c_18 => absurd c_18 (by decide)) (fun c_18 => ?_)
        refine zr_aload_n dX10_isTwisted_21 rfl ?_
        refine zr_iload_n dX10_isTwisted_22 rfl ?_
        refine zr_iload_n dX10_isTwisted_23 rfl ?_
        refine zr_pVi [] dX10_isTwisted_24 vX10_183 (qX10_end hX (i := i) (p := 3) h0 h1 gr hA (by omega)) h0 (by decide) (by decide) (by decide) rfl rfl (Nat.le_of_ble_eq_true rfl) (by decide) rfl ?_
        refine zr_iload_n dX10_isTwisted_27 rfl ?_
        refine zr_icmp_eq (tgt := 33) dX10_isTwisted_28 (by decide) (fun c_28 => ?_) (fun c_28 => ?_)
        · have d3 := c_28
          refine zr_iinc (v := 4) (ls' := [some (.ref y), some (.int (nI i)), some (.int 4)]) dX10_isTwisted_33 rfl (by decide) (by decide) rfl ?_
          refine zr_goto (tgt := 16) dX10_isTwisted_36 (by decide) ?_
          refine zr_iload_n dX10_isTwisted_16 rfl ?_
          refine zr_iconst (v := 5) dX10_isTwisted_17 (by decide) ?_
          refine zr_icmp_gt (tgt := 39) dX10_isTwisted_18 (by decide) (fun c_18 => absurd c_18 (by decide)) (fun c_18 => ?_)
          refine zr_aload_n dX10_isTwisted_21 rfl ?_
          refine zr_iload_n dX10_isTwisted_22 rfl ?_
          refine zr_iload_n dX10_isTwisted_23 rfl ?_
          refine zr_pVi [] dX10_isTwisted_24 vX10_183 (qX10_end hX (i := i) (p := 4) h0 h1 gr hA (by omega)) h0 (by decide) (by decide) (by decide) rfl rfl (Nat.le_of_ble_eq_true rfl) (by decide) rfl ?_
          refine zr_iload_n dX10_isTwisted_27 rfl ?_
          refine zr_icmp_eq (tgt := 33) dX10_isTwisted_28 (by decide) (fun c_28 => ?_) (fun c_28 => ?_)
          · have d4 := c_28
            refine zr_iinc (v := 5) (ls' := [some (.ref y), some (.int (nI i)), some (.int 5)]) dX10_isTwisted_33 rfl (by decide) (by decide) rfl ?_
            refine zr_goto (tgt := 16) dX10_isTwisted_36 (by decide) ?_
            refine zr_iload_n dX10_isTwisted_16 rfl ?_
            refine zr_iconst (v := 5) dX10_isTwisted_17 (by decide) ?_
            refine zr_icmp_gt (tgt := 39) dX10_isTwisted_18 (by decide) (fun c_18 => absurd c_18 (by decide)) (fun c_18 => ?_)
            refine zr_aload_n dX10_isTwisted_21 rfl ?_
            refine zr_iload_n dX10_isTwisted_22 rfl ?_
            refine zr_iload_n dX10_isTwisted_23 rfl ?_
            refine zr_pVi [] dX10_isTwisted_24 vX10_183 (qX10_end hX (i := i) (p := 5) h0 h1 gr hA (by omega)) h0 (by decide) (by decide) (by decide) rfl rfl (Nat.le_of_ble_eq_true rfl) (by decide) rfl ?_
            refine zr_iload_n dX10_isTwisted_27 rfl ?_
            refine zr_icmp_eq (tgt := 33) dX10_isTwisted_28 (by decide) (fun c_28 => ?_) (fun c_28 => ?_)
            · have d5 := c_28
              refine zr_iinc (v := 6) (ls' := [some (.ref y), some (.int (nI i)), some (.int 6)]) dX10_isTwisted_33 rfl (by decide) (by decide) rfl ?_
              refine zr_goto (tgt := 16) dX10_isTwisted_36 (by decide) ?_
              refine zr_iload_n dX10_isTwisted_16 rfl ?_
              refine zr_iconst (v := 5) dX10_isTwisted_17 (by decide) ?_
              refine zr_icmp_gt (tgt := 39) dX10_isTwisted_18 (by decide) (fun c_18 => ?_) (fun c_18 => absurd (by decide) c_18)
              refine zr_iconst (v := 0) dX10_isTwisted_39 (by decide) ?_
              refine zr_ireturn dX10_isTwisted_40 rfl (rfl) ?_
              have hnw := (zix_2 hb).mp c_9
              refine ⟨_, rfl, ?_, rfl⟩
              unfold zTg; rw [if_neg (fun q => q.elim (fun q => by unfold zPure at q; rw [if_pos ⟨d1, d2, d3, d4, d5⟩] at q; exact absurd q (by decide)) hnw)]
            · refine zr_iconst (v := 1) dX10_isTwisted_31 (by decide) ?_
              refine zr_ireturn dX10_isTwisted_32 rfl (rfl) ?_
              refine ⟨_, rfl, ?_, rfl⟩
              unfold zTg; rw [if_pos (Or.inl (by unfold zPure; rw [if_neg (fun q => c_28 (by first | exact q.1 | exact q.2.1 | exact q.2.2.1 | exact q.2.2.2.1 | exact q.2.2.2.2))]))]
          · refine zr_iconst (v := 1) dX10_isTwisted_31 (by decide) ?_
            refine zr_ireturn dX10_isTwisted_32 rfl (rfl) ?_
            refine ⟨_, rfl, ?_, rfl⟩
            unfold zTg; rw [if_pos (Or.inl (by unfold zPure; rw [if_neg (fun q => c_28 (by first | exact q.1 | exact q.2.1 | exact q.2.2.1 | exact q.2.2.2.1 | exact q.2.2.2.2))]))]
        · refine zr_iconst (v := 1) dX10_isTwisted_31 (by decide) ?_
          refine zr_ireturn dX10_isTwisted_32 rfl (rfl) ?_
          refine ⟨_, rfl, ?_, rfl⟩
          unfold zTg; rw [if_pos (Or.inl (by unfold zPure; rw [if_neg (fun q => c_28 (by first | exact q.1 | exact q.2.1 | exact q.2.2.1 | exact q.2.2.2.1 | exact q.2.2.2.2))]))]
      · refine zr_iconst (v := 1) dX10_isTwisted_31 (by decide) ?_
        refine zr_ireturn dX10_isTwisted_32 rfl (rfl) ?_
        refine ⟨_, rfl, ?_, rfl⟩
        unfold zTg; rw [if_pos (Or.inl (by unfold zPure; rw [if_neg (fun q => c_28 (by first | exact q.1 | exact q.2.1 | exact q.2.2.1 | exact q.2.2.2.1 | exact q.2.2.2.2))]))]
    · refine zr_iconst (v := 1) dX10_isTwisted_31 (by decide) ?_
      refine zr_ireturn dX10_isTwisted_32 rfl (rfl) ?_
      refine ⟨_, rfl, ?_, rfl⟩
      unfold zTg; rw [if_pos (Or.inl (by unfold zPure; rw [if_neg (fun q => c_28 (by first | exact q.1 | exact q.2.1 | exact q.2.2.1 | exact q.2.2.2.1 | exact q.2.2.2.2))]))]
  · refine zr_iconst (v := 1) dX10_isTwisted_12 (by decide) ?_
    exact zr_ireturn dX10_isTwisted_13 rfl (rfl) (⟨_, rfl, by unfold zTg; rw [if_pos (Or.inr (Classical.not_not.mp (fun q => c_9 ((zix_2 hb).mpr q))))], rfl⟩)

