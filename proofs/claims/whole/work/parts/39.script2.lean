set_option maxHeartbeats 400000 in
set_option maxRecDepth 100000 in
theorem l_cm {X : zX} (hX : X.1.stackTraces = false) {σ : zS} {y n cnt a w : Nat} {f : Nat → Int32} (h0 : σ.1 y = .inr (5, [.ref (y + 1), .int (nI n), .ref (y + 2), .ref (y + 3), .ref (y + 4), .int (nI cnt), .int (nI a)])) (h1 : σ.1 (y + 1) = .inl (1, 60, .inl f)) (hn : n ≤ 60) (ha : a ≤ n) (hw : w < 7) : ∀ (j i : Nat) , i + j = (zTXn w) → (zcm f n a (zLw w) = i + zcm f n (a + i) ((zLw w).drop i)) → zW X mX7_countMatching 4 0 0 (zI (fun y_ s_ => y_ = nI (zcm f n a (zLw w)) ∧ s_ = σ)) 2 [some (.ref y), some (.ref ((zQ X (7 + w)))), some (.int (nI i))] [] σ := by
  intro j
  induction j with
  | zero =>
    intro i  hi hz
    have h7 := zLw_small w hw
    refine zr_iload_n dX7_countMatching_2 rfl ?_
    refine zr_aload_n dX7_countMatching_3 rfl ?_
    refine zr_callT (vs := []) [.int (nI i)] dX7_countMatching_4 kJ0_length_8abf5 tx_l61 iJ0_length_8abf5 sJ0_length_8abf5 rfl (by omega) (qJ0_length_8abf5 hX _ (i := w) (by omega)) (by decide) rfl rfl (Nat.le_of_ble_eq_true rfl) rfl (fun r_ s_ h_ => ?_)
    rw [h_.1, h_.2]; clear h_
    refine zr_icmp_ge (tgt := 48) dX7_countMatching_7 (by decide) (fun c_7 => ?_) (fun c_7 => absurd ((nI_leI (a := zTXn w) (b := i) (by omega) (by omega)).mpr (by omega)) c_7)
    refine zr_iload_n dX7_countMatching_48 rfl ?_
    exact zr_ireturn dX7_countMatching_49 rfl (rfl) (⟨_, rfl, by rw [hz, List.drop_of_length_le (by rw [zLw_len]; omega)]; rfl, rfl⟩)
  | succ j ih =>
    intro i  hi hz
    have h7 := zLw_small w hw
    refine zr_iload_n dX7_countMatching_2 rfl ?_
    refine zr_aload_n dX7_countMatching_3 rfl ?_
    refine zr_callT (vs := []) [.int (nI i)] dX7_countMatching_4 kJ0_length_8abf5 tx_l61 iJ0_length_8abf5 sJ0_length_8abf5 rfl (by omega) (qJ0_length_8abf5 hX _ (i := w) (by omega)) (by decide) rfl rfl (Nat.le_of_ble_eq_true rfl) rfl (fun r_ s_ h_ => ?_)
    rw [h_.1, h_.2]; clear h_
    refine zr_icmp_ge (tgt := 48) dX7_countMatching_7 (by decide) (fun c_7 => absurd c_7 (fun h => absurd ((nI_leI (a := zTXn w) (b := i) (by omega) (by omega)).mp h) (by omega))) (fun c_7 => ?_)
    refine zr_aload_n dX7_countMatching_10 rfl ?_
    refine zr_getfield dX7_countMatching_11 fX7_35 h0 rfl (by decide) ?_
    refine zr_iload_n dX7_countMatching_14 rfl ?_
    refine zr_iadd dX7_countMatching_15 ?_
    refine zr_eqi (x' := nI (a + i)) (nI_add a i) ?_
    refine zr_aload_n dX7_countMatching_16 rfl ?_
    refine zr_getfield dX7_countMatching_17 fX7_15 h0 rfl (by decide) ?_
    refine zr_icmp_ge (tgt := 48) dX7_countMatching_20 (by decide) (fun c_20 => ?_) (fun c_20 => ?_)
    · refine zr_iload_n dX7_countMatching_48 rfl ?_
      exact zr_ireturn dX7_countMatching_49 rfl (rfl) (⟨_, rfl, by rw [hz, zLw_drop (by omega)]; simp only [zcm]; rw [if_neg (fun q => absurd ((nI_leI (by omega) (by omega)).mp c_20) (by omega))]; rfl, rfl⟩)
    · have amn : a + i < n := Nat.not_le.mp (fun q => c_20 ((nI_leI (by omega) (by omega)).mpr q))
      refine zr_aload_n dX7_countMatching_23 rfl ?_
      refine zr_getfield dX7_countMatching_24 fX7_9 h0 rfl (by decide) ?_
      refine zr_aload_n dX7_countMatching_27 rfl ?_
      refine zr_getfield dX7_countMatching_28 fX7_35 h0 rfl (by decide) ?_
      refine zr_iload_n dX7_countMatching_31 rfl ?_
      refine zr_iadd dX7_countMatching_32 ?_
      refine zr_eqi (x' := nI (a + i)) (nI_add a i) ?_
      refine zr_caload dX7_countMatching_33 h1 (vp_in_nI (n := a + i) (by omega) (by omega)) ?_
      rw [nI_clamp (n := a + i) (by omega)]
      refine zr_aload_n dX7_countMatching_34 rfl ?_
      refine zr_iload_n dX7_countMatching_35 rfl ?_
      refine zr_callT (vs := [.int (nI i)]) [.int ((f (a + i)))] dX7_countMatching_36 kJ0_charAt_5068e tx_l76 iJ0_charAt_5068e sJ0_charAt_5068e rfl (by omega) (qJ0_charAt_5068e hX _ (i := w) (j := i) (by omega) (by omega)) (by decide) rfl rfl (Nat.le_of_ble_eq_true rfl) rfl (fun r_ s_ h_ => ?_)
      rw [h_.1, h_.2]; clear h_
      refine zr_icmp_ne (tgt := 48) dX7_countMatching_39 (by decide) (fun c_39 => ?_) (fun c_39 => ?_)
      · refine zr_iload_n dX7_countMatching_48 rfl ?_
        exact zr_ireturn dX7_countMatching_49 rfl (rfl) (⟨_, rfl, by rw [hz, zLw_drop (by omega)]; simp only [zcm]; rw [if_neg (fun q => c_39 q.2)]; rfl, rfl⟩)
      · refine zr_iinc (v := nI (i + 1)) (ls' := [some (.ref y), some (.ref ((zQ X (7 + w)))), some (.int (nI (i + 1)))]) dX7_countMatching_42 rfl (nI_1 _) (by decide) rfl ?_
        refine zr_goto (tgt := 2) dX7_countMatching_45 (by decide) ?_
        exact ih (i + 1)  (by omega) (by rw [hz, zLw_drop (by omega)]; simp only [zcm]; rw [if_pos ⟨amn, c_39⟩]; rw [show a + (i + 1) = a + i + 1 from by omega]; omega)

set_option maxHeartbeats 400000 in
set_option maxRecDepth 100000 in
theorem qX7_countMatching {X : zX} (hX : X.1.stackTraces = false) {σ : zS} {y n cnt a w : Nat} {f : Nat → Int32} (h0 : σ.1 y = .inr (5, [.ref (y + 1), .int (nI n), .ref (y + 2), .ref (y + 3), .ref (y + 4), .int (nI cnt), .int (nI a)])) (h1 : σ.1 (y + 1) = .inl (1, 60, .inl f)) (hn : n ≤ 60) (ha : a ≤ n) (hw : w < 7) : zMet X mX7_countMatching yX7_countMatching 4 0 0 [.ref y, .ref ((zQ X (7 + w)))] σ (zI (fun y_ s_ => y_ = nI (zcm f n a (zLw w)) ∧ s_ = σ)) := by
  refine zMet_of (ls := [some (.ref y), some (.ref ((zQ X (7 + w)))), none]) rfl (by decide +kernel) rfl (fun h => by cases h) hX (Nat.le_of_ble_eq_true rfl) rfl ?_
  refine zr_iconst (v := 0) dX7_countMatching_0 (by decide) ?_
  refine zr_istore_n (ls' := [some (.ref y), some (.ref ((zQ X (7 + w)))), some (.int 0)]) dX7_countMatching_1 rfl (by decide) rfl ?_
  exact l_cm hX h0 h1 hn ha hw (zTXn w) 0 (by omega) (by rw [List.drop_zero, Nat.zero_add, Nat.add_zero])

set_option maxHeartbeats 400000 in
set_option maxRecDepth 100000 in
theorem qX7_addStep {X : zX} (hX : X.1.stackTraces = false) {σ : zS} {y n cnt a : Nat} {nf lf : Nat → Int32} {cf : Nat → Option Nat} {c k : Nat} {l : Int32} (h0 : σ.1 y = .inr (5, [.ref (y + 1), .int (nI n), .ref (y + 2), .ref (y + 3), .ref (y + 4), .int (nI cnt), .int (nI a)])) (h2 : σ.1 (y + 2) = .inl (7, 12, .inr (.inr (.inr (.inr cf))))) (h3 : σ.1 (y + 3) = .inl (0, 12, .inl nf)) (h4 : σ.1 (y + 4) = .inl (0, 12, .inl lf)) (hcnt : cnt < 12) (hc : c < 7) : zMet X mX7_addStep yX7_addStep 0 0 0 [.ref y, .ref ((zQ X c)), .int (nI k), .int l] σ (zV (fun s => zFr σ s (fun q => q = y ∨ q = y + 2 ∨ q = y + 3 ∨ q = y + 4) ∧ s.1 y = .inr (5, [.ref (y + 1), .int (nI n), .ref (y + 2), .ref (y + 3), .ref (y + 4), .int (nI (cnt + 1)), .int (nI a)]) ∧ s.1 (y + 2) = .inl (7, 12, .inr (.inr (.inr (.inr (va_up cf cnt (some (zQ X c))))))) ∧ s.1 (y + 3) = .inl (0, 12, .inl (upd nf cnt (nI k))) ∧ s.1 (y + 4) = .inl (0, 12, .inl (upd lf cnt l)))) := by
  refine zMet_of (ls := [some (.ref y), some (.ref ((zQ X c))), some (.int (nI k)), some (.int l)]) rfl (by decide +kernel) rfl (fun h => by cases h) hX (Nat.le_of_ble_eq_true rfl) rfl ?_
  refine zr_aload_n dX7_addStep_0 rfl ?_
  refine zr_getfield dX7_addStep_1 fX7_32 h0 rfl (by decide) ?_
  refine zr_bipush (v := 12) dX7_addStep_4 (by decide) ?_
  refine zr_icmp_ge (tgt := 49) dX7_addStep_6 (by decide) (fun c_6 => absurd c_6 (fun h => absurd ((nI_leI (a := 12) (b := cnt) (by omega) (by omega)).mp h) (by omega))) (fun c_6 => ?_)
  refine zr_aload_n dX7_addStep_9 rfl ?_
  refine zr_getfield dX7_addStep_10 fX7_21 h0 rfl (by decide) ?_
  refine zr_aload_n dX7_addStep_13 rfl ?_
  refine zr_getfield dX7_addStep_14 fX7_32 h0 rfl (by decide) ?_
  refine zr_aload_n dX7_addStep_17 rfl ?_
  refine zr_aastE dX7_addStep_18 h2 (vp_in_nI (n := cnt) (by omega) (by omega)) (k := c) (by omega) ?_
  rw [nI_clamp (n := cnt) (by omega)]
  refine zr_sig (fun ks1 e_ks1 => ?_)
  have kh2 : ks1.1 y = .inr (5, [.ref ((y + 1)), .int (nI n), .ref ((y + 2)), .ref ((y + 3)), .ref ((y + 4)), .int (nI cnt), .int (nI a)]) := by rw [e_ks1, zup_ne _ _ (by omega)]; exact h0
  have kh3 : ks1.1 (y + 2) = .inl (7, 12, .inr (.inr (.inr (.inr (va_up cf cnt (some (zQ X c))))))) := by rw [e_ks1]; exact zup_at _ _ _
  have kh4 : ks1.1 (y + 3) = .inl (0, 12, .inl nf) := by rw [e_ks1, zup_ne _ _ (by omega)]; exact h3
  have kh5 : ks1.1 (y + 4) = .inl (0, 12, .inl lf) := by rw [e_ks1, zup_ne _ _ (by omega)]; exact h4
  have kF6 := zFr.put zFr.rf (P := (fun q => q = y ∨ q = y + 2 ∨ q = y + 3 ∨ q = y + 4)) e_ks1 (by first | omega | simp)
  refine zr_aload_n dX7_addStep_19 rfl ?_
  refine zr_getfield dX7_addStep_20 fX7_25 kh2 rfl (by decide) ?_
  refine zr_aload_n dX7_addStep_23 rfl ?_
  refine zr_getfield dX7_addStep_24 fX7_32 kh2 rfl (by decide) ?_
  refine zr_iload_n dX7_addStep_27 rfl ?_
  refine zr_iastore dX7_addStep_28 kh4 (vp_in_nI (n := cnt) (by omega) (by omega)) ?_
  rw [nI_clamp (n := cnt) (by omega)]
  refine zr_sig (fun ks7 e_ks7 => ?_)
  have kh8 : ks7.1 y = .inr (5, [.ref ((y + 1)), .int (nI n), .ref ((y + 2)), .ref ((y + 3)), .ref ((y + 4)), .int (nI cnt), .int (nI a)]) := by rw [e_ks7, zup_ne _ _ (by omega)]; exact kh2
  have kh9 : ks7.1 (y + 2) = .inl (7, 12, .inr (.inr (.inr (.inr (va_up cf cnt (some (zQ X c))))))) := by rw [e_ks7, zup_ne _ _ (by omega)]; exact kh3
  have kh10 : ks7.1 (y + 3) = .inl (0, 12, .inl (upd nf cnt (nI k))) := by rw [e_ks7]; exact zup_at _ _ _
  have kh11 : ks7.1 (y + 4) = .inl (0, 12, .inl lf) := by rw [e_ks7, zup_ne _ _ (by omega)]; exact kh5
  have kF12 := zFr.put kF6 e_ks7 (by first | omega | simp)
  refine zr_aload_n dX7_addStep_29 rfl ?_
  refine zr_getfield dX7_addStep_30 fX7_29 kh8 rfl (by decide) ?_
  refine zr_aload_n dX7_addStep_33 rfl ?_
  refine zr_getfield dX7_addStep_34 fX7_32 kh8 rfl (by decide) ?_
  refine zr_iload_n dX7_addStep_37 rfl ?_
  refine zr_iastore dX7_addStep_38 kh11 (vp_in_nI (n := cnt) (by omega) (by omega)) ?_
  rw [nI_clamp (n := cnt) (by omega)]
  refine zr_sig (fun ks13 e_ks13 => ?_)
  have kh14 : ks13.1 y = .inr (5, [.ref ((y + 1)), .int (nI n), .ref ((y + 2)), .ref ((y + 3)), .ref ((y + 4)), .int (nI cnt), .int (nI a)]) := by rw [e_ks13, zup_ne _ _ (by omega)]; exact kh8
  have kh15 : ks13.1 (y + 2) = .inl (7, 12, .inr (.inr (.inr (.inr (va_up cf cnt (some (zQ X c))))))) := by rw [e_ks13, zup_ne _ _ (by omega)]; exact kh9
  have kh16 : ks13.1 (y + 3) = .inl (0, 12, .inl (upd nf cnt (nI k))) := by rw [e_ks13, zup_ne _ _ (by omega)]; exact kh10
  have kh17 : ks13.1 (y + 4) = .inl (0, 12, .inl (upd lf cnt l)) := by rw [e_ks13]; exact zup_at _ _ _
  have kF18 := zFr.put kF12 e_ks13 (by first | omega | simp)
  refine zr_aload_n dX7_addStep_39 rfl ?_
  refine zr_dup dX7_addStep_40 rfl ?_
  refine zr_getfield dX7_addStep_41 fX7_32 kh14 rfl (by decide) ?_
  refine zr_iconst (v := 1) dX7_addStep_44 (by decide) ?_
  refine zr_iadd dX7_addStep_45 ?_
  refine zr_eqi (x' := nI (cnt + 1)) (nI_add cnt 1) ?_
  refine zr_putfield (fs' := [.ref ((y + 1)), .int (nI n), .ref ((y + 2)), .ref ((y + 3)), .ref ((y + 4)), .int (nI (cnt + 1)), .int (nI a)]) dX7_addStep_46 pX7_32 kh14 (by decide) (rfl) (rfl) (Nat.le_of_ble_eq_true rfl) rfl ?_
  refine zr_sig (fun ks19 e_ks19 => ?_)
  have kh20 : ks19.1 y = .inr (5, [.ref ((y + 1)), .int (nI n), .ref ((y + 2)), .ref ((y + 3)), .ref ((y + 4)), .int (nI (cnt + 1)), .int (nI a)]) := by rw [e_ks19]; exact zup_at _ _ _
  have kh21 : ks19.1 (y + 2) = .inl (7, 12, .inr (.inr (.inr (.inr (va_up cf cnt (some (zQ X c))))))) := by rw [e_ks19, zup_ne _ _ (by omega)]; exact kh15
  have kh22 : ks19.1 (y + 3) = .inl (0, 12, .inl (upd nf cnt (nI k))) := by rw [e_ks19, zup_ne _ _ (by omega)]; exact kh16
  have kh23 : ks19.1 (y + 4) = .inl (0, 12, .inl (upd lf cnt l)) := by rw [e_ks19, zup_ne _ _ (by omega)]; exact kh17
  have kF24 := zFr.put kF18 e_ks19 (by first | omega | simp)
  exact zr_return dX7_addStep_49 rfl (⟨rfl, kF24, kh20, kh21, kh22, kh23⟩)

/-- what a step leaves in the three rows -/
def zStp (X : zX) (y : Nat) (cf : Nat → Option Nat) (nf lf : Nat → Int32) (cnt : Nat) (q : Nat × Nat × Int32) (s : zS) : Prop := s.1 (y + 2) = .inl (7, 12, .inr (.inr (.inr (.inr (va_up cf cnt (some (zQ X q.1))))))) ∧ s.1 (y + 3) = .inl (0, 12, .inl (upd nf cnt (nI q.2.1))) ∧ s.1 (y + 4) = .inl (0, 12, .inl (upd lf cnt q.2.2))
set_option maxHeartbeats 400000 in
set_option maxRecDepth 100000 in
theorem qX7_readParameters {X : zX} (hX : X.1.stackTraces = false) {σ : zS} {y n cnt a : Nat} {f nf lf : Nat → Int32} {cf : Nat → Option Nat} {c : Nat} (h0 : σ.1 y = .inr (5, [.ref (y + 1), .int (nI n), .ref (y + 2), .ref (y + 3), .ref (y + 4), .int (nI cnt), .int (nI a)])) (h1 : σ.1 (y + 1) = .inl (1, 60, .inl f)) (h2 : σ.1 (y + 2) = .inl (7, 12, .inr (.inr (.inr (.inr cf))))) (h3 : σ.1 (y + 3) = .inl (0, 12, .inl nf)) (h4 : σ.1 (y + 4) = .inl (0, 12, .inl lf)) (hn : n ≤ 60) (ha : a ≤ n) (hcnt : cnt < 12) (hc : c < 7) (hQ : ∀ i j : Nat, i < 7 → j < 7 → zQ X i = zQ X j → i = j) : zMet X mX7_readParameters yX7_readParameters 1 0 0 [.ref y, .ref ((zQ X c))] σ (zI (fun y_ s => zFr σ s (fun q => q = y ∨ q = y + 2 ∨ q = y + 3 ∨ q = y + 4) ∧ (((zpar f n c a).1 = true ∧ y_ = 1 ∧ s.1 y = .inr (5, [.ref (y + 1), .int (nI n), .ref (y + 2), .ref (y + 3), .ref (y + 4), .int (nI (cnt + 1)), .int (nI ((zpar f n c a).2.1))]) ∧ zStp X y cf nf lf cnt (c, (zpar f n c a).2.2) s) ∨ ((zpar f n c a).1 = false ∧ y_ = 0 ∧ s.1 y = .inr (5, [.ref (y + 1), .int (nI n), .ref (y + 2), .ref (y + 3), .ref (y + 4), .int (nI cnt), .int (nI ((zpar f n c a).2.1))]) ∧ s.1 (y + 2) = .inl (7, 12, .inr (.inr (.inr (.inr cf)))) ∧ s.1 (y + 3) = .inl (0, 12, .inl nf) ∧ s.1 (y + 4) = .inl (0, 12, .inl lf))))) := by
  refine zMet_of (ls := [some (.ref y), some (.ref ((zQ X c))), none, none]) rfl (by decide +kernel) rfl (fun h => by cases h) hX (Nat.le_of_ble_eq_true rfl) rfl ?_
  refine zr_iconst (v := 0) dX7_readParameters_0 (by decide) ?_
  refine zr_istore_n (ls' := [some (.ref y), some (.ref ((zQ X c))), some (.int 0), none]) dX7_readParameters_1 rfl (by decide) rfl ?_
  refine zr_iconst (v := 0) dX7_readParameters_2 (by decide) ?_
  refine zr_istore_n (ls' := [some (.ref y), some (.ref ((zQ X c))), some (.int 0), some (.int 0)]) dX7_readParameters_3 rfl (by decide) rfl ?_
  refine zr_aload_n dX7_readParameters_4 rfl ?_
  refine zr_takes dX7_readParameters_5 (by omega) fX7_80 ?_
  refine zr_if_eq (tgt := 75) dX7_readParameters_8 (by decide) (fun c_8 => ?_) (fun c_8 => ?_)
  · have c0 : c = 0 := Classical.not_not.mp (fun q => by rw [if_neg q] at c_8; exact absurd c_8 (by decide)); have ek : (0 : Nat) = 0 := rfl
    refine zr_aload_n dX7_readParameters_75 rfl ?_
    refine zr_enum (i := 1) dX7_readParameters_76 (by decide) rfl fX7_84 ?_
    refine zr_acmp_ne (tgt := 142) dX7_readParameters_79 (by decide) (fun c_79 => ?_) (fun c_79 => ?_)
    · have c1 : ¬ c = 1 := fun q => c_79 (by rw [q])
      refine zr_aload_n dX7_readParameters_142 rfl ?_
      refine zr_aload_n dX7_readParameters_143 rfl ?_
      refine zr_iload_n dX7_readParameters_144 rfl ?_
      refine zr_iload_n dX7_readParameters_145 rfl ?_
      refine zr_callVv [] dX7_readParameters_146 vX7_91 (qX7_addStep hX (c := c) (k := 0) (l := 0) h0 h2 h3 h4 (by omega) (by omega)) h0 (by decide) (by decide) (by decide) rfl rfl (Nat.le_of_ble_eq_true rfl) (by decide) rfl (fun s_kr1 h_kr1 => ?_)
      obtain ⟨F_kr1, g0_kr1, g1_kr1, g2_kr1, g3_kr1⟩ := h_kr1
      have kh2 : s_kr1.1 (y + 1) = .inl (1, 60, .inl f) := zFr.get F_kr1 (by omega) h1
      have kF3 := zFr.tr zFr.rf (P := (fun q => q = y ∨ q = y + 2 ∨ q = y + 3 ∨ q = y + 4)) F_kr1 (by intro q hq; omega)
      refine zr_iconst (v := 1) dX7_readParameters_149 (by decide) ?_
      refine zr_ireturn dX7_readParameters_150 rfl (rfl) ?_
      have e_ : zpar f n c a = (true, a, 0, 0) := by unfold zpar; rw [if_pos c0]
      refine ⟨_, rfl, kF3, ?_⟩
      rw [e_]
      exact Or.inl ⟨rfl, rfl, g0_kr1, g1_kr1, ek ▸ g2_kr1, g3_kr1⟩
    · exact absurd (c0.symm.trans (hQ c 1 hc (by decide) c_79)) (by decide)
  · have c0 : ¬ c = 0 := fun q => c_8 (by rw [if_pos q])
    refine zr_aload_n dX7_readParameters_11 rfl ?_
    refine zr_getfield dX7_readParameters_12 fX7_35 h0 rfl (by decide) ?_
    refine zr_aload_n dX7_readParameters_15 rfl ?_
    refine zr_getfield dX7_readParameters_16 fX7_15 h0 rfl (by decide) ?_
    refine zr_icmp_ge (tgt := 50) dX7_readParameters_19 (by decide) (fun c_19 => ?_) (fun c_19 => ?_)
    · refine zr_iconst (v := 0) dX7_readParameters_50 (by decide) ?_
      refine zr_ireturn dX7_readParameters_51 rfl (rfl) ?_
      have e_ : zpar f n c a = (false, a, 0, 0) := by unfold zpar; rw [if_neg c0, if_neg (fun q => absurd ((nI_leI (by omega) (by omega)).mp c_19) (by omega))]
      refine ⟨_, rfl, zFr.rf (P := (fun q => q = y ∨ q = y + 2 ∨ q = y + 3 ∨ q = y + 4)), ?_⟩
      rw [e_]
      exact Or.inr ⟨rfl, rfl, h0, h2, h3, h4⟩
    · refine zr_aload_n dX7_readParameters_22 rfl ?_
      have an : a < n := Nat.not_le.mp (fun q => c_19 ((nI_leI (by omega) (by omega)).mpr q))
      refine zr_getfield dX7_readParameters_23 fX7_9 h0 rfl (by decide) ?_
      refine zr_aload_n dX7_readParameters_26 rfl ?_
      refine zr_getfield dX7_readParameters_27 fX7_35 h0 rfl (by decide) ?_
      refine zr_caload dX7_readParameters_30 h1 (vp_in_nI (n := a) (by omega) (by omega)) ?_
      rw [nI_clamp (n := a) (by omega)]
      refine zr_bipush (v := 48) dX7_readParameters_31 (by decide) ?_
      refine zr_icmp_lt (tgt := 50) dX7_readParameters_33 (by decide) (fun c_33 => ?_) (fun c_33 => ?_)
      · refine zr_iconst (v := 0) dX7_readParameters_50 (by decide) ?_
        refine zr_ireturn dX7_readParameters_51 rfl (rfl) ?_
        have e_ : zpar f n c a = (false, a, 0, 0) := by unfold zpar; rw [if_neg c0, if_neg (fun q => absurd q.2.1 (Int32.not_le.mpr c_33))]
        refine ⟨_, rfl, zFr.rf (P := (fun q => q = y ∨ q = y + 2 ∨ q = y + 3 ∨ q = y + 4)), ?_⟩
        rw [e_]
        exact Or.inr ⟨rfl, rfl, h0, h2, h3, h4⟩
      · refine zr_aload_n dX7_readParameters_36 rfl ?_
        refine zr_getfield dX7_readParameters_37 fX7_9 h0 rfl (by decide) ?_
        refine zr_aload_n dX7_readParameters_40 rfl ?_
        refine zr_getfield dX7_readParameters_41 fX7_35 h0 rfl (by decide) ?_
        refine zr_caload dX7_readParameters_44 h1 (vp_in_nI (n := a) (by omega) (by omega)) ?_
        rw [nI_clamp (n := a) (by omega)]
        refine zr_bipush (v := 57) dX7_readParameters_45 (by decide) ?_
        refine zr_icmp_le (tgt := 52) dX7_readParameters_47 (by decide) (fun c_47 => ?_) (fun c_47 => ?_)
        · obtain ⟨kd, hkd, ekd⟩ := zdig (Int32.not_lt.mp c_33) c_47
          have ek : (f a - 48).toNatClampNeg = kd := by rw [ekd, nI_clamp (by omega)]
          refine zr_aload_n dX7_readParameters_52 rfl ?_
          refine zr_getfield dX7_readParameters_53 fX7_9 h0 rfl (by decide) ?_
          refine zr_aload_n dX7_readParameters_56 rfl ?_
          refine zr_getfield dX7_readParameters_57 fX7_35 h0 rfl (by decide) ?_
          refine zr_caload dX7_readParameters_60 h1 (vp_in_nI (n := a) (by omega) (by omega)) ?_
          rw [nI_clamp (n := a) (by omega)]
          refine zr_bipush (v := 48) dX7_readParameters_61 (by decide) ?_
          refine zr_isub dX7_readParameters_63 ?_
          refine zr_eqi (x' := nI kd) (ekd) ?_
          refine zr_istore_n (ls' := [some (.ref y), some (.ref ((zQ X c))), some (.int (nI kd)), some (.int 0)]) dX7_readParameters_64 rfl (by decide) rfl ?_
          refine zr_aload_n dX7_readParameters_65 rfl ?_
          refine zr_dup dX7_readParameters_66 rfl ?_
          refine zr_getfield dX7_readParameters_67 fX7_35 h0 rfl (by decide) ?_
          refine zr_iconst (v := 1) dX7_readParameters_70 (by decide) ?_
          refine zr_iadd dX7_readParameters_71 ?_
          refine zr_eqi (x' := nI (a + 1)) (nI_add a 1) ?_
          refine zr_putfield (fs' := [.ref ((y + 1)), .int (nI n), .ref ((y + 2)), .ref ((y + 3)), .ref ((y + 4)), .int (nI cnt), .int (nI (a + 1))]) dX7_readParameters_72 pX7_35 h0 (by decide) (rfl) (rfl) (Nat.le_of_ble_eq_true rfl) rfl ?_
          refine zr_sig (fun ks4 e_ks4 => ?_)
          have kh5 : ks4.1 y = .inr (5, [.ref ((y + 1)), .int (nI n), .ref ((y + 2)), .ref ((y + 3)), .ref ((y + 4)), .int (nI cnt), .int (nI (a + 1))]) := by rw [e_ks4]; exact zup_at _ _ _
          have kh6 : ks4.1 (y + 1) = .inl (1, 60, .inl f) := by rw [e_ks4, zup_ne _ _ (by omega)]; exact h1
          have kh7 : ks4.1 (y + 2) = .inl (7, 12, .inr (.inr (.inr (.inr cf)))) := by rw [e_ks4, zup_ne _ _ (by omega)]; exact h2
          have kh8 : ks4.1 (y + 3) = .inl (0, 12, .inl nf) := by rw [e_ks4, zup_ne _ _ (by omega)]; exact h3
          have kh9 : ks4.1 (y + 4) = .inl (0, 12, .inl lf) := by rw [e_ks4, zup_ne _ _ (by omega)]; exact h4
          have kF10 := zFr.put zFr.rf (P := (fun q => q = y ∨ q = y + 2 ∨ q = y + 3 ∨ q = y + 4)) e_ks4 (by first | omega | simp)
          refine zr_aload_n dX7_readParameters_75 rfl ?_
          refine zr_enum (i := 1) dX7_readParameters_76 (by decide) rfl fX7_84 ?_
          refine zr_acmp_ne (tgt := 142) dX7_readParameters_79 (by decide) (fun c_79 => ?_) (fun c_79 => ?_)
          · have c1 : ¬ c = 1 := fun q => c_79 (by rw [q])
            refine zr_aload_n dX7_readParameters_142 rfl ?_
            refine zr_aload_n dX7_readParameters_143 rfl ?_
            refine zr_iload_n dX7_readParameters_144 rfl ?_
            refine zr_iload_n dX7_readParameters_145 rfl ?_
            refine zr_callVv [] dX7_readParameters_146 vX7_91 (qX7_addStep hX (c := c) (k := kd) (l := 0) kh5 kh7 kh8 kh9 (by omega) (by omega)) kh5 (by decide) (by decide) (by decide) rfl rfl (Nat.le_of_ble_eq_true rfl) (by decide) rfl (fun s_kr11 h_kr11 => ?_)
            obtain ⟨F_kr11, g0_kr11, g1_kr11, g2_kr11, g3_kr11⟩ := h_kr11
            have kh12 : s_kr11.1 (y + 1) = .inl (1, 60, .inl f) := zFr.get F_kr11 (by omega) kh6
            have kF13 := zFr.tr kF10 F_kr11 (by intro q hq; omega)
            refine zr_iconst (v := 1) dX7_readParameters_149 (by decide) ?_
            refine zr_ireturn dX7_readParameters_150 rfl (rfl) ?_
            have e_ : zpar f n c a = (true, a + 1, (f a - 48).toNatClampNeg, 0) := by unfold zpar; rw [if_neg c0, if_pos ⟨an, Int32.not_lt.mp c_33, c_47⟩, if_neg c1]
            refine ⟨_, rfl, kF13, ?_⟩
            rw [e_]
            exact Or.inl ⟨rfl, rfl, g0_kr11, g1_kr11, ek ▸ g2_kr11, g3_kr11⟩
          · have c1 : c = 1 := hQ c 1 hc (by decide) c_79
            refine zr_aload_n dX7_readParameters_82 rfl ?_
            refine zr_bipush (v := 32) dX7_readParameters_83 (by decide) ?_
            by_cases hrc : a + 1 < n ∧ f (a + 1) = 32
            · refine zr_callVi [] dX7_readParameters_85 vX7_46 (qX7_readCharacter1 hX kh5 kh6 (by omega) (by omega) hrc) kh5 (by decide) (by decide) (by decide) rfl rfl (Nat.le_of_ble_eq_true rfl) (by decide) rfl (fun kr14 s_kr14 h_kr14 => ?_)
              obtain ⟨e_kr14, F_kr14, g0_kr14⟩ := h_kr14
              have kh15 : s_kr14.1 (y + 1) = .inl (1, 60, .inl f) := zFr.get F_kr14 (by omega) kh6
              have kh16 : s_kr14.1 (y + 2) = .inl (7, 12, .inr (.inr (.inr (.inr cf)))) := zFr.get F_kr14 (by omega) kh7
              have kh17 : s_kr14.1 (y + 3) = .inl (0, 12, .inl nf) := zFr.get F_kr14 (by omega) kh8
              have kh18 : s_kr14.1 (y + 4) = .inl (0, 12, .inl lf) := zFr.get F_kr14 (by omega) kh9
              have kF19 := zFr.tr kF10 F_kr14 (by intro q hq; omega)
              obtain rfl := e_kr14.symm
              refine zr_if_eq (tgt := 117) dX7_readParameters_88 (by decide) (fun c_88 => absurd c_88 (by decide)) (fun c_88 => ?_)
              refine zr_aload_n dX7_readParameters_91 rfl ?_
              refine zr_getfield dX7_readParameters_92 fX7_35 g0_kr14 rfl (by decide) ?_
              refine zr_aload_n dX7_readParameters_95 rfl ?_
              refine zr_getfield dX7_readParameters_96 fX7_15 g0_kr14 rfl (by decide) ?_
              refine zr_icmp_ge (tgt := 117) dX7_readParameters_99 (by decide) (fun c_99 => ?_) (fun c_99 => ?_)
              · refine zr_iconst (v := 0) dX7_readParameters_117 (by decide) ?_
                refine zr_ireturn dX7_readParameters_118 rfl (rfl) ?_
                have e_ : zpar f n c a = (false, a + 2, 0, 0) := by unfold zpar; rw [if_neg c0, if_pos ⟨an, Int32.not_lt.mp c_33, c_47⟩, if_pos c1, if_pos hrc, if_neg (fun q => absurd ((nI_leI (by omega) (by omega)).mp c_99) (by omega))]
                refine ⟨_, rfl, kF19, ?_⟩
                rw [e_]
                exact Or.inr ⟨rfl, rfl, g0_kr14, kh16, kh17, kh18⟩
              · refine zr_aload_n dX7_readParameters_102 rfl ?_
                have an2 : a + 1 + 1 < n := Nat.not_le.mp (fun q => c_99 ((nI_leI (by omega) (by omega)).mpr q))
                refine zr_getfield dX7_readParameters_103 fX7_9 g0_kr14 rfl (by decide) ?_
                refine zr_aload_n dX7_readParameters_106 rfl ?_
                refine zr_getfield dX7_readParameters_107 fX7_35 g0_kr14 rfl (by decide) ?_
                refine zr_caload dX7_readParameters_110 kh15 (vp_in_nI (n := a + 1 + 1) (by omega) (by omega)) ?_
                rw [nI_clamp (n := a + 1 + 1) (by omega)]
                refine zr_pSi [] dX7_readParameters_111 vX7_87 (qX9_letterOf hX s_kr14 ((f (a + 1 + 1)))) (by decide) (by decide) (by decide) rfl rfl (Nat.le_of_ble_eq_true rfl) rfl ?_
                refine zr_if_ne (tgt := 119) dX7_readParameters_114 (by decide) (fun c_114 => ?_) (fun c_114 => ?_)
                · refine zr_aload_n dX7_readParameters_119 rfl ?_
                  refine zr_getfield dX7_readParameters_120 fX7_9 g0_kr14 rfl (by decide) ?_
                  refine zr_aload_n dX7_readParameters_123 rfl ?_
                  refine zr_getfield dX7_readParameters_124 fX7_35 g0_kr14 rfl (by decide) ?_
                  refine zr_caload dX7_readParameters_127 kh15 (vp_in_nI (n := a + 1 + 1) (by omega) (by omega)) ?_
                  rw [nI_clamp (n := a + 1 + 1) (by omega)]
                  refine zr_pSi [] dX7_readParameters_128 vX7_87 (qX9_letterOf hX s_kr14 ((f (a + 1 + 1)))) (by decide) (by decide) (by decide) rfl rfl (Nat.le_of_ble_eq_true rfl) rfl ?_
                  refine zr_istore_n (ls' := [some (.ref y), some (.ref ((zQ X c))), some (.int (nI kd)), some (.int ((zlet (f (a + 1 + 1)))))]) dX7_readParameters_131 rfl (by decide) rfl ?_
                  refine zr_aload_n dX7_readParameters_132 rfl ?_
                  refine zr_dup dX7_readParameters_133 rfl ?_
                  refine zr_getfield dX7_readParameters_134 fX7_35 g0_kr14 rfl (by decide) ?_
                  refine zr_iconst (v := 1) dX7_readParameters_137 (by decide) ?_
                  refine zr_iadd dX7_readParameters_138 ?_
                  refine zr_eqi (x' := nI ((a + 1 + 1) + 1)) (nI_add (a + 1 + 1) 1) ?_
                  refine zr_putfield (fs' := [.ref ((y + 1)), .int (nI n), .ref ((y + 2)), .ref ((y + 3)), .ref ((y + 4)), .int (nI cnt), .int (nI ((a + 1 + 1) + 1))]) dX7_readParameters_139 pX7_35 g0_kr14 (by decide) (rfl) (rfl) (Nat.le_of_ble_eq_true rfl) rfl ?_
                  refine zr_sig (fun ks20 e_ks20 => ?_)
                  have kh21 : ks20.1 y = .inr (5, [.ref ((y + 1)), .int (nI n), .ref ((y + 2)), .ref ((y + 3)), .ref ((y + 4)), .int (nI cnt), .int (nI ((a + 1 + 1) + 1))]) := by rw [e_ks20]; exact zup_at _ _ _
                  have kh22 : ks20.1 (y + 1) = .inl (1, 60, .inl f) := by rw [e_ks20, zup_ne _ _ (by omega)]; exact kh15
                  have kh23 : ks20.1 (y + 2) = .inl (7, 12, .inr (.inr (.inr (.inr cf)))) := by rw [e_ks20, zup_ne _ _ (by omega)]; exact kh16
                  have kh24 : ks20.1 (y + 3) = .inl (0, 12, .inl nf) := by rw [e_ks20, zup_ne _ _ (by omega)]; exact kh17
                  have kh25 : ks20.1 (y + 4) = .inl (0, 12, .inl lf) := by rw [e_ks20, zup_ne _ _ (by omega)]; exact kh18
                  have kF26 := zFr.put kF19 e_ks20 (by first | omega | simp)
                  refine zr_aload_n dX7_readParameters_142 rfl ?_
                  refine zr_aload_n dX7_readParameters_143 rfl ?_
                  refine zr_iload_n dX7_readParameters_144 rfl ?_
                  refine zr_iload_n dX7_readParameters_145 rfl ?_
                  refine zr_callVv [] dX7_readParameters_146 vX7_91 (qX7_addStep hX (c := c) (k := kd) (l := (zlet (f (a + 1 + 1)))) kh21 kh23 kh24 kh25 (by omega) (by omega)) kh21 (by decide) (by decide) (by decide) rfl rfl (Nat.le_of_ble_eq_true rfl) (by decide) rfl (fun s_kr27 h_kr27 => ?_)
                  obtain ⟨F_kr27, g0_kr27, g1_kr27, g2_kr27, g3_kr27⟩ := h_kr27
                  have kh28 : s_kr27.1 (y + 1) = .inl (1, 60, .inl f) := zFr.get F_kr27 (by omega) kh22
                  have kF29 := zFr.tr kF26 F_kr27 (by intro q hq; omega)
                  refine zr_iconst (v := 1) dX7_readParameters_149 (by decide) ?_
                  refine zr_ireturn dX7_readParameters_150 rfl (rfl) ?_
                  have e_ : zpar f n c a = (true, a + 3, (f a - 48).toNatClampNeg, zlet (f (a + 2))) := by unfold zpar; rw [if_neg c0, if_pos ⟨an, Int32.not_lt.mp c_33, c_47⟩, if_pos c1, if_pos hrc, if_pos ⟨an2, c_114⟩]
                  refine ⟨_, rfl, kF29, ?_⟩
                  rw [e_]
                  exact Or.inl ⟨rfl, rfl, g0_kr27, g1_kr27, ek ▸ g2_kr27, g3_kr27⟩
                · refine zr_iconst (v := 0) dX7_readParameters_117 (by decide) ?_
                  refine zr_ireturn dX7_readParameters_118 rfl (rfl) ?_
                  have e_ : zpar f n c a = (false, a + 2, 0, 0) := by unfold zpar; rw [if_neg c0, if_pos ⟨an, Int32.not_lt.mp c_33, c_47⟩, if_pos c1, if_pos hrc, if_neg (fun q => q.2 c_114)]
                  refine ⟨_, rfl, kF19, ?_⟩
                  rw [e_]
                  exact Or.inr ⟨rfl, rfl, g0_kr14, kh16, kh17, kh18⟩
            · refine zr_pVi [] dX7_readParameters_85 vX7_46 (qX7_readCharacter0 hX kh5 kh6 (by omega) (by omega) hrc) kh5 (by decide) (by decide) (by decide) rfl rfl (Nat.le_of_ble_eq_true rfl) (by decide) rfl ?_
              refine zr_if_eq (tgt := 117) dX7_readParameters_88 (by decide) (fun c_88 => ?_) (fun c_88 => absurd (by decide) c_88)
              refine zr_iconst (v := 0) dX7_readParameters_117 (by decide) ?_
              refine zr_ireturn dX7_readParameters_118 rfl (rfl) ?_
              have e_ : zpar f n c a = (false, a + 1, 0, 0) := by unfold zpar; rw [if_neg c0, if_pos ⟨an, Int32.not_lt.mp c_33, c_47⟩, if_pos c1, if_neg hrc]
              refine ⟨_, rfl, kF10, ?_⟩
              rw [e_]
              exact Or.inr ⟨rfl, rfl, kh5, kh7, kh8, kh9⟩
        · refine zr_iconst (v := 0) dX7_readParameters_50 (by decide) ?_
          refine zr_ireturn dX7_readParameters_51 rfl (rfl) ?_
          have e_ : zpar f n c a = (false, a, 0, 0) := by unfold zpar; rw [if_neg c0, if_neg (fun q => c_47 q.2.2)]
          refine ⟨_, rfl, zFr.rf (P := (fun q => q = y ∨ q = y + 2 ∨ q = y + 3 ∨ q = y + 4)), ?_⟩
          rw [e_]
          exact Or.inr ⟨rfl, rfl, h0, h2, h3, h4⟩

