/-! the reference reads its text -/
def zhr (f : Nat → Int32) (n a : Nat) : Int32 := if a < n then f a else -1
theorem zhr_y {f : Nat → Int32} {n a : Nat} (h : a < n) : zhr f n a = f a := if_pos h
theorem zhr_no {f : Nat → Int32} {n a : Nat} {c : Int32} (h : ¬ (a < n ∧ f a = c)) (hc : ¬ c = -1) : ¬ zhr f n a = c := by
  unfold zhr
  by_cases q : a < n
  · rw [if_pos q]; exact fun e => h ⟨q, e⟩
  · rw [if_neg q]; exact fun e => hc e.symm
theorem zhr_d {f : Nat → Int32} {n a : Nat} : (48 ≤ zhr f n a ∧ zhr f n a ≤ 57) ↔ (a < n ∧ 48 ≤ f a ∧ f a ≤ 57) := by
  unfold zhr
  by_cases q : a < n
  · rw [if_pos q]; exact ⟨fun h => ⟨q, h⟩, fun h => h.2⟩
  · rw [if_neg q]; exact ⟨fun h => absurd h.1 (by decide), fun h => absurd h.1 q⟩
theorem zhr_l {f : Nat → Int32} {n a : Nat} : ¬ zlet (zhr f n a) = 0 ↔ (a < n ∧ ¬ zlet (f a) = 0) := by
  unfold zhr
  by_cases q : a < n
  · rw [if_pos q]; exact ⟨fun h => ⟨q, h⟩, fun h => h.2⟩
  · rw [if_neg q]; exact ⟨fun h => absurd (by decide) h, fun h => absurd h.1 q⟩
theorem zTX_m1 : ∀ i, i < 14 → ∀ x ∈ zTX.getD i [], ¬ x = -1 := by decide +kernel
theorem zTXc_m1 {i j : Nat} (hi : i < 14) (hj : j < zTXn i) : ¬ zTXc i j = -1 := zTX_m1 i hi _ (zTXc_mem hj)
/-- a command as told -/
def zTl (td : Nat → Int32) (t : Nat) (q : Nat × Nat × Int32) : Prop := td (3 * t) = nI q.1 ∧ (¬ q.1 = 0 → td (3 * t + 1) = nI q.2.1) ∧ (q.1 = 1 → zlet (td (3 * t + 2)) = q.2.2 ∧ ¬ q.2.2 = 0)
set_option maxHeartbeats 400000 in
set_option maxRecDepth 100000 in
theorem qX10_here {X : zX} (hX : X.1.stackTraces = false) {σ : zS} {y : Nat} {F : Nat → Int32} {ip : Nat → Int32} {n a t : Nat} (h0 : σ.1 y = zmO y (upd (upd F 25 (nI a)) 27 (nI t))) (h5 : σ.1 (y + 5) = .inl (0, 60, .inl ip)) (fn : F 13 = nI n) (hn : n ≤ 60) (ha : a ≤ n) : zMet X mX10_here yX10_here 0 0 0 [.ref y] σ (zI (fun y_ s_ => y_ = zhr ip n a ∧ s_ = σ)) := by
  refine zMet_of (ls := [some (.ref y)]) rfl (by decide +kernel) rfl (fun h => by cases h) hX (Nat.le_of_ble_eq_true rfl) rfl ?_
  refine zr_aload_n dX10_here_0 rfl ?_
  refine zr_getM (v := .int (nI a)) dX10_here_1 fX10_228 h0 rfl ?_
  refine zr_aload_n dX10_here_4 rfl ?_
  refine zr_getM (v := .int (F 13)) dX10_here_5 fX10_225 h0 rfl ?_
  refine zr_eqi (x' := nI n) fn ?_
  refine zr_icmp_ge (tgt := 23) dX10_here_8 (by decide) (fun c_8 => ?_) (fun c_8 => ?_)
  · refine zr_iconst (v := -1) dX10_here_23 (by decide) ?_
    exact zr_ireturn dX10_here_24 rfl (rfl) (⟨_, rfl, (if_neg (fun q => absurd ((nI_leI (by omega) (by omega)).mp c_8) (by omega))).symm, rfl⟩)
  · have an : a < n := Nat.not_le.mp (fun q => c_8 ((nI_leI (by omega) (by omega)).mpr q))
    refine zr_aload_n dX10_here_11 rfl ?_
    refine zr_getM (v := .ref (y + 5)) dX10_here_12 fX10_22 h0 rfl ?_
    refine zr_aload_n dX10_here_15 rfl ?_
    refine zr_getM (v := .int (nI a)) dX10_here_16 fX10_228 h0 rfl ?_
    refine zr_iaload dX10_here_19 h5 (vp_in_nI (n := a) (by omega) (by omega)) ?_
    rw [nI_clamp (n := a) (by omega)]
    refine zr_goto (tgt := 24) dX10_here_20 (by decide) ?_
    exact zr_ireturn dX10_here_24 rfl (rfl) (⟨_, rfl, (if_pos an).symm, rfl⟩)

set_option maxHeartbeats 400000 in
set_option maxRecDepth 100000 in
theorem qX10_skips1 {X : zX} (hX : X.1.stackTraces = false) {σ : zS} {y : Nat} {F : Nat → Int32} {ip : Nat → Int32} {n a t : Nat} {c : Int32} (h0 : σ.1 y = zmO y (upd (upd F 25 (nI a)) 27 (nI t))) (h5 : σ.1 (y + 5) = .inl (0, 60, .inl ip)) (fn : F 13 = nI n) (hn : n ≤ 60) (ha : a ≤ n) (hc : a < n ∧ ip a = c) : zMet X mX10_skips yX10_skips 1 0 0 [.ref y, .int c] σ (zI (fun y_ s => y_ = 1 ∧ zFr σ s (fun q => q = y) ∧ s.1 y = zmO y (upd (upd F 25 (nI (a + 1))) 27 (nI t)))) := by
  refine zMet_of (ls := [some (.ref y), some (.int c)]) rfl (by decide +kernel) rfl (fun h => by cases h) hX (Nat.le_of_ble_eq_true rfl) rfl ?_
  refine zr_aload_n dX10_skips_0 rfl ?_
  refine zr_pVi [] dX10_skips_1 vX10_231 (qX10_here hX (a := a) h0 h5 fn hn (by omega)) h0 (by decide) (by decide) (by decide) rfl rfl (Nat.le_of_ble_eq_true rfl) (by decide) rfl ?_
  refine zr_iload_n dX10_skips_4 rfl ?_
  refine zr_icmp_eq (tgt := 10) dX10_skips_5 (by decide) (fun c_5 => ?_) (fun c_5 => absurd ((zhr_y hc.1).trans hc.2) c_5)
  refine zr_aload_n dX10_skips_10 rfl ?_
  refine zr_dup dX10_skips_11 rfl ?_
  refine zr_getM (v := .int (nI a)) dX10_skips_12 fX10_228 h0 rfl ?_
  refine zr_iconst (v := 1) dX10_skips_15 (by decide) ?_
  refine zr_iadd dX10_skips_16 ?_
  refine zr_eqi (x' := nI (a + 1)) (nI_add a 1) ?_
  refine zr_putM (v := nI (a + 1)) dX10_skips_17 pX10_228 h0 (rfl) (rfl) (Nat.le_of_ble_eq_true rfl) (zms_25 _ _ _) ?_
  refine zr_sig (fun ks1 e_ks1 => ?_)
  have kh2 : ks1.1 y = zmO y (upd (upd F 25 (nI (a + 1))) 27 (nI t)) := by rw [e_ks1]; exact zup_at _ _ _
  have kh3 : ks1.1 (y + 5) = .inl (0, 60, .inl ip) := by rw [e_ks1, zup_ne _ _ (by omega)]; exact h5
  have kF4 := zFr.put zFr.rf (P := (fun q => q = y)) e_ks1 rfl
  refine zr_iconst (v := 1) dX10_skips_20 (by decide) ?_
  exact zr_ireturn dX10_skips_21 rfl (rfl) (⟨_, rfl, rfl, kF4, kh2⟩)

set_option maxHeartbeats 400000 in
set_option maxRecDepth 100000 in
theorem qX10_skips0 {X : zX} (hX : X.1.stackTraces = false) {σ : zS} {y : Nat} {F : Nat → Int32} {ip : Nat → Int32} {n a t : Nat} {c : Int32} (h0 : σ.1 y = zmO y (upd (upd F 25 (nI a)) 27 (nI t))) (h5 : σ.1 (y + 5) = .inl (0, 60, .inl ip)) (fn : F 13 = nI n) (hn : n ≤ 60) (ha : a ≤ n) (hc : ¬ (a < n ∧ ip a = c)) (hm : ¬ c = -1) : zMet X mX10_skips yX10_skips 1 0 0 [.ref y, .int c] σ (zI (fun y_ s_ => y_ = 0 ∧ s_ = σ)) := by
  refine zMet_of (ls := [some (.ref y), some (.int c)]) rfl (by decide +kernel) rfl (fun h => by cases h) hX (Nat.le_of_ble_eq_true rfl) rfl ?_
  refine zr_aload_n dX10_skips_0 rfl ?_
  refine zr_pVi [] dX10_skips_1 vX10_231 (qX10_here hX (a := a) h0 h5 fn hn (by omega)) h0 (by decide) (by decide) (by decide) rfl rfl (Nat.le_of_ble_eq_true rfl) (by decide) rfl ?_
  refine zr_iload_n dX10_skips_4 rfl ?_
  refine zr_icmp_eq (tgt := 10) dX10_skips_5 (by decide) (fun c_5 => absurd c_5 (zhr_no hc hm)) (fun c_5 => ?_)
  refine zr_iconst (v := 0) dX10_skips_8 (by decide) ?_
  exact zr_ireturn dX10_skips_9 rfl (rfl) (⟨_, rfl, rfl, rfl⟩)

set_option maxHeartbeats 400000 in
set_option maxRecDepth 100000 in
theorem l_iw {X : zX} (hX : X.1.stackTraces = false) {σ : zS} {y : Nat} {F : Nat → Int32} {ip td : Nat → Int32} {n a t : Nat} {w : Nat} {v : Int32} (h5 : σ.1 (y + 5) = .inl (0, 60, .inl ip)) (fn : F 13 = nI n) (hn : n ≤ 60) (ha : a ≤ n) (hw : w < 14) : ∀ (j i : Nat) (s : zS), i + j = (zTXn w) → (zFr σ s (fun q => q = y ∨ q = y + 11)) → (s.1 y = zmO y (upd (upd F 25 (nI (a + i))) 27 (nI t))) → (s.1 (y + 11) = .inl (0, 93, .inl (upd td (3 * t) v))) → (zcm ip n a (zLw w) = i + zcm ip n (a + i) ((zLw w).drop i)) → (a + i ≤ n) → zW X mX10_isWord 4 0 0 ((zI (fun y_ s => y_ = (if zcm ip n a (zLw w) = zTXn w then 1 else 0) ∧ zFr σ s (fun q => q = y ∨ q = y + 11) ∧ s.1 y = zmO y (upd (upd F 25 (nI (a + zcm ip n a (zLw w)))) 27 (nI t)) ∧ s.1 (y + 11) = .inl (0, 93, .inl (upd td (3 * t) v))))) 14 [some (.ref y), some (.int v), some (.ref ((zQ X (7 + w)))), some (.int (nI i))] [] s := by
  intro j
  induction j with
  | zero =>
    intro i s hi hFr k0 k11 hz hai
    have k5 := zFr.get hFr (by omega) h5
    have w7 : zTXn w < 2 ^ 31 := zTX_len hw
    refine zr_iload_n dX10_isWord_14 rfl ?_
    refine zr_aload_n dX10_isWord_15 rfl ?_
    refine zr_callT (vs := []) [.int (nI i)] dX10_isWord_16 kJ0_length_8abf5 tx_l237 iJ0_length_8abf5 sJ0_length_8abf5 rfl (by omega) (qJ0_length_8abf5 hX _ (i := w) (by omega)) (by decide) rfl rfl (Nat.le_of_ble_eq_true rfl) rfl (fun r_ s_ h_ => ?_)
    rw [h_.1, h_.2]; clear h_
    refine zr_icmp_ge (tgt := 42) dX10_isWord_19 (by decide) (fun c_19 => ?_) (fun c_19 => absurd ((nI_leI (a := zTXn w) (b := i) (by omega) (by omega)).mpr (by omega)) c_19)
    refine zr_iconst (v := 1) dX10_isWord_42 (by decide) ?_
    refine zr_ireturn dX10_isWord_43 rfl (rfl) ?_
    have ez : zcm ip n a (zLw w) = zTXn w := by rw [hz, List.drop_of_length_le (by rw [zLw_len]; omega)]; show i + 0 = _; omega
    have ei : i = zTXn w := (by omega)
    exact ⟨_, rfl, (if_pos ez).symm, hFr, by rw [ez, ← ei]; exact k0, k11⟩
  | succ j ih =>
    intro i s hi hFr k0 k11 hz hai
    have k5 := zFr.get hFr (by omega) h5
    have w7 : zTXn w < 2 ^ 31 := zTX_len hw
    refine zr_iload_n dX10_isWord_14 rfl ?_
    refine zr_aload_n dX10_isWord_15 rfl ?_
    refine zr_callT (vs := []) [.int (nI i)] dX10_isWord_16 kJ0_length_8abf5 tx_l237 iJ0_length_8abf5 sJ0_length_8abf5 rfl (by omega) (qJ0_length_8abf5 hX _ (i := w) (by omega)) (by decide) rfl rfl (Nat.le_of_ble_eq_true rfl) rfl (fun r_ s_ h_ => ?_)
    rw [h_.1, h_.2]; clear h_
    refine zr_icmp_ge (tgt := 42) dX10_isWord_19 (by decide) (fun c_19 => absurd c_19 (fun h => absurd ((nI_leI (a := zTXn w) (b := i) (by omega) (by omega)).mp h) (by omega))) (fun c_19 => ?_)
    refine zr_aload_n dX10_isWord_22 rfl ?_
    refine zr_aload_n dX10_isWord_23 rfl ?_
    refine zr_iload_n dX10_isWord_24 rfl ?_
    refine zr_callT (vs := [.int (nI i)]) [.ref y] dX10_isWord_25 kJ0_charAt_5068e tx_l241 iJ0_charAt_5068e sJ0_charAt_5068e rfl (by omega) (qJ0_charAt_5068e hX _ (i := w) (j := i) (by omega) (by omega)) (by decide) rfl rfl (Nat.le_of_ble_eq_true rfl) rfl (fun r_ s_ h_ => ?_)
    rw [h_.1, h_.2]; clear h_
    by_cases hk28 : a + i < n ∧ ip (a + i) = (zTXc w i)
    · refine zr_callVi [] dX10_isWord_28 vX10_244 (qX10_skips1 hX (a := a + i) (c := (zTXc w i)) k0 k5 fn hn (by omega) hk28) k0 (by decide) (by decide) (by decide) rfl rfl (Nat.le_of_ble_eq_true rfl) (by decide) rfl (fun kr1 s_kr1 h_kr1 => ?_)
      obtain ⟨e_kr1, F_kr1, g0_kr1⟩ := h_kr1
      have kh2 : s_kr1.1 (y + 5) = .inl (0, 60, .inl ip) := zFr.get F_kr1 (by omega) k5
      have kh3 : s_kr1.1 (y + 11) = .inl (0, 93, .inl (upd td (3 * t) v)) := zFr.get F_kr1 (by omega) k11
      have kF4 := zFr.tr hFr F_kr1 (by intro q hq; omega)
      obtain rfl := e_kr1.symm
      refine zr_if_ne (tgt := 36) dX10_isWord_31 (by decide) (fun c_31 => ?_) (fun c_31 => absurd c_31 (by decide))
      refine zr_iinc (v := nI (i + 1)) (ls' := [some (.ref y), some (.int v), some (.ref ((zQ X (7 + w)))), some (.int (nI (i + 1)))]) dX10_isWord_36 rfl (nI_1 _) (by decide) rfl ?_
      refine zr_goto (tgt := 14) dX10_isWord_39 (by decide) ?_
      exact ih (i + 1) _ (by omega) (kF4) (g0_kr1) (kh3) (by rw [hz, zLw_drop (by omega), zcm_ye hk28, show a + (i + 1) = a + i + 1 from by omega]; omega) (by have := hk28.1; omega)
    · refine zr_pVi [] dX10_isWord_28 vX10_244 (qX10_skips0 hX (a := a + i) (c := (zTXc w i)) k0 k5 fn hn (by omega) hk28 (zTXc_m1 hw (by omega))) k0 (by decide) (by decide) (by decide) rfl rfl (Nat.le_of_ble_eq_true rfl) (by decide) rfl ?_
      refine zr_if_ne (tgt := 36) dX10_isWord_31 (by decide) (fun c_31 => absurd (by decide) c_31) (fun c_31 => ?_)
      refine zr_iconst (v := 0) dX10_isWord_34 (by decide) ?_
      refine zr_ireturn dX10_isWord_35 rfl (rfl) ?_
      have ez : zcm ip n a (zLw w) = i := by rw [hz, zLw_drop (by omega), zcm_no hk28]; rfl
      exact ⟨_, rfl, (if_neg (by omega)).symm, hFr, by rw [ez]; exact k0, k11⟩

set_option maxHeartbeats 400000 in
set_option maxRecDepth 100000 in
theorem qX10_isWord {X : zX} (hX : X.1.stackTraces = false) {σ : zS} {y : Nat} {F : Nat → Int32} {ip td : Nat → Int32} {n a t : Nat} {w : Nat} {v : Int32} (h0 : σ.1 y = zmO y (upd (upd F 25 (nI a)) 27 (nI t))) (h5 : σ.1 (y + 5) = .inl (0, 60, .inl ip)) (fn : F 13 = nI n) (hn : n ≤ 60) (ha : a ≤ n) (h11 : σ.1 (y + 11) = .inl (0, 93, .inl td)) (hw : w < 14) (ht : t ≤ 12) : zMet X mX10_isWord yX10_isWord 4 0 0 [.ref y, .int v, .ref ((zQ X (7 + w)))] σ (zI (fun y_ s => y_ = (if zcm ip n a (zLw w) = zTXn w then 1 else 0) ∧ zFr σ s (fun q => q = y ∨ q = y + 11) ∧ s.1 y = zmO y (upd (upd F 25 (nI (a + zcm ip n a (zLw w)))) 27 (nI t)) ∧ s.1 (y + 11) = .inl (0, 93, .inl (upd td (3 * t) v)))) := by
  refine zMet_of (ls := [some (.ref y), some (.int v), some (.ref ((zQ X (7 + w)))), none]) rfl (by decide +kernel) rfl (fun h => by cases h) hX (Nat.le_of_ble_eq_true rfl) rfl ?_
  refine zr_aload_n dX10_isWord_0 rfl ?_
  refine zr_getM (v := .ref (y + 11)) dX10_isWord_1 fX10_46 h0 rfl ?_
  refine zr_iconst (v := 3) dX10_isWord_4 (by decide) ?_
  refine zr_aload_n dX10_isWord_5 rfl ?_
  refine zr_getM (v := .int (nI t)) dX10_isWord_6 fX10_234 h0 rfl ?_
  refine zr_imul dX10_isWord_9 ?_
  refine zr_eqi (x' := nI (3 * t)) (pk_mul 3 t) ?_
  refine zr_iload_n dX10_isWord_10 rfl ?_
  refine zr_iastore dX10_isWord_11 h11 (vp_in_nI (n := 3 * t) (by omega) (by omega)) ?_
  rw [nI_clamp (n := 3 * t) (by omega)]
  refine zr_sig (fun ks1 e_ks1 => ?_)
  have kh2 : ks1.1 y = zmO y (upd (upd F 25 (nI a)) 27 (nI t)) := by rw [e_ks1, zup_ne _ _ (by omega)]; exact h0
  have kh3 : ks1.1 (y + 5) = .inl (0, 60, .inl ip) := by rw [e_ks1, zup_ne _ _ (by omega)]; exact h5
  have kh4 : ks1.1 (y + 11) = .inl (0, 93, .inl (upd td (3 * t) v)) := by rw [e_ks1]; exact zup_at _ _ _
  have kF5 := zFr.put zFr.rf (P := (fun q => q = y ∨ q = y + 11)) e_ks1 (by first | omega | simp)
  refine zr_iconst (v := 0) dX10_isWord_12 (by decide) ?_
  refine zr_istore_n (ls' := [some (.ref y), some (.int v), some (.ref ((zQ X (7 + w)))), some (.int 0)]) dX10_isWord_13 rfl (by decide) rfl ?_
  exact l_iw hX h5 fn hn ha hw (zTXn w) 0 _ (by omega) kF5 kh2 kh4 (by rw [List.drop_zero, Nat.zero_add, Nat.add_zero]) (by omega)

set_option maxHeartbeats 400000 in
set_option maxRecDepth 100000 in
theorem qX10_figure {X : zX} (hX : X.1.stackTraces = false) {σ : zS} {y : Nat} {F : Nat → Int32} {ip td : Nat → Int32} {n a t : Nat} {p : Nat} (h0 : σ.1 y = zmO y (upd (upd F 25 (nI a)) 27 (nI t))) (h5 : σ.1 (y + 5) = .inl (0, 60, .inl ip)) (fn : F 13 = nI n) (hn : n ≤ 60) (ha : a ≤ n) (h11 : σ.1 (y + 11) = .inl (0, 93, .inl td)) (hp : p < 93) : zMet X mX10_figure yX10_figure 2 0 0 [.ref y, .int (nI p)] σ (zI (fun y_ s => y_ = (if (zfg ip n a).1 = true then 1 else 0) ∧ zFr σ s (fun q => q = y ∨ q = y + 11) ∧ s.1 y = zmO y (upd (upd F 25 (nI ((zfg ip n a).2))) 27 (nI t)) ∧ s.1 (y + 11) = .inl (0, 93, .inl (if (zfg ip n a).1 = true then upd td p (ip (a + 1) - 48) else td)))) := by
  refine zMet_of (ls := [some (.ref y), some (.int (nI p))]) rfl (by decide +kernel) rfl (fun h => by cases h) hX (Nat.le_of_ble_eq_true rfl) rfl ?_
  refine zr_aload_n dX10_figure_0 rfl ?_
  refine zr_bipush (v := 32) dX10_figure_1 (by decide) ?_
  by_cases hk3 : a < n ∧ ip a = 32
  · refine zr_callVi [] dX10_figure_3 vX10_244 (qX10_skips1 hX (a := a) (c := 32) h0 h5 fn hn (by omega) hk3) h0 (by decide) (by decide) (by decide) rfl rfl (Nat.le_of_ble_eq_true rfl) (by decide) rfl (fun kr1 s_kr1 h_kr1 => ?_)
    obtain ⟨e_kr1, F_kr1, g0_kr1⟩ := h_kr1
    have kh2 : s_kr1.1 (y + 5) = .inl (0, 60, .inl ip) := zFr.get F_kr1 (by omega) h5
    have kh3 : s_kr1.1 (y + 11) = .inl (0, 93, .inl td) := zFr.get F_kr1 (by omega) h11
    have kF4 := zFr.tr zFr.rf (P := (fun q => q = y ∨ q = y + 11)) F_kr1 (by intro q hq; omega)
    obtain rfl := e_kr1.symm
    refine zr_if_eq (tgt := 23) dX10_figure_6 (by decide) (fun c_6 => absurd c_6 (by decide)) (fun c_6 => ?_)
    refine zr_aload_n dX10_figure_9 rfl ?_
    refine zr_pVi [] dX10_figure_10 vX10_231 (qX10_here hX (a := a + 1) g0_kr1 kh2 fn hn (by omega)) g0_kr1 (by decide) (by decide) (by decide) rfl rfl (Nat.le_of_ble_eq_true rfl) (by decide) rfl ?_
    refine zr_bipush (v := 48) dX10_figure_13 (by decide) ?_
    refine zr_bipush (v := 57) dX10_figure_15 (by decide) ?_
    refine zr_pSi [] dX10_figure_17 vX10_75 (qX10_in hX (v := (zhr ip n (a + 1))) (l := 48) (h := 57)) (by decide) (by decide) (by decide) rfl rfl (Nat.le_of_ble_eq_true rfl) rfl ?_
    refine zr_if_ne (tgt := 25) dX10_figure_20 (by decide) (fun c_20 => ?_) (fun c_20 => ?_)
    · have hc2 : a + 1 < n ∧ 48 ≤ ip (a + 1) ∧ ip (a + 1) ≤ 57 := zhr_d.mp (Classical.not_not.mp (fun q => c_20 (if_neg q)))
      refine zr_aload_n dX10_figure_25 rfl ?_
      refine zr_getM (v := .ref (y + 11)) dX10_figure_26 fX10_46 g0_kr1 rfl ?_
      refine zr_iload_n dX10_figure_29 rfl ?_
      refine zr_aload_n dX10_figure_30 rfl ?_
      refine zr_pVi [.int (nI p), .ref ((y + 11))] dX10_figure_31 vX10_231 (qX10_here hX (a := a + 1) g0_kr1 kh2 fn hn (by omega)) g0_kr1 (by decide) (by decide) (by decide) rfl rfl (Nat.le_of_ble_eq_true rfl) (by decide) rfl ?_
      refine zr_eqi (x' := (ip (a + 1))) (zhr_y hc2.1) ?_
      refine zr_bipush (v := 48) dX10_figure_34 (by decide) ?_
      refine zr_isub dX10_figure_36 ?_
      refine zr_iastore dX10_figure_37 kh3 (vp_in_nI (n := p) (by omega) (by omega)) ?_
      rw [nI_clamp (n := p) (by omega)]
      refine zr_sig (fun ks5 e_ks5 => ?_)
      have kh6 : ks5.1 y = zmO y (upd (upd F 25 (nI (a + 1))) 27 (nI t)) := by rw [e_ks5, zup_ne _ _ (by omega)]; exact g0_kr1
      have kh7 : ks5.1 (y + 5) = .inl (0, 60, .inl ip) := by rw [e_ks5, zup_ne _ _ (by omega)]; exact kh2
      have kh8 : ks5.1 (y + 11) = .inl (0, 93, .inl (upd td p ((ip (a + 1)) - 48))) := by rw [e_ks5]; exact zup_at _ _ _
      have kF9 := zFr.put kF4 e_ks5 (by first | omega | simp)
      refine zr_aload_n dX10_figure_38 rfl ?_
      refine zr_dup dX10_figure_39 rfl ?_
      refine zr_getM (v := .int (nI (a + 1))) dX10_figure_40 fX10_228 kh6 rfl ?_
      refine zr_iconst (v := 1) dX10_figure_43 (by decide) ?_
      refine zr_iadd dX10_figure_44 ?_
      refine zr_eqi (x' := nI ((a + 1) + 1)) (nI_add (a + 1) 1) ?_
      refine zr_putM (v := nI ((a + 1) + 1)) dX10_figure_45 pX10_228 kh6 (rfl) (rfl) (Nat.le_of_ble_eq_true rfl) (zms_25 _ _ _) ?_
      refine zr_sig (fun ks10 e_ks10 => ?_)
      have kh11 : ks10.1 y = zmO y (upd (upd F 25 (nI ((a + 1) + 1))) 27 (nI t)) := by rw [e_ks10]; exact zup_at _ _ _
      have kh12 : ks10.1 (y + 5) = .inl (0, 60, .inl ip) := by rw [e_ks10, zup_ne _ _ (by omega)]; exact kh7
      have kh13 : ks10.1 (y + 11) = .inl (0, 93, .inl (upd td p ((ip (a + 1)) - 48))) := by rw [e_ks10, zup_ne _ _ (by omega)]; exact kh8
      have kF14 := zFr.put kF9 e_ks10 (by first | omega | simp)
      refine zr_iconst (v := 1) dX10_figure_48 (by decide) ?_
      refine zr_ireturn dX10_figure_49 rfl (rfl) ?_
      have eg : zfg ip n a = (true, a + 1 + 1) := by unfold zfg; rw [if_pos hk3, if_pos hc2]
      exact ⟨_, rfl, by rw [eg]; rfl, kF14, by rw [eg]; exact kh11, by rw [eg]; exact kh13⟩
    · have hc2 : ¬ (a + 1 < n ∧ 48 ≤ ip (a + 1) ∧ ip (a + 1) ≤ 57) := fun q => absurd (c_20.symm.trans (if_pos (zhr_d.mpr q))) (by decide)
      refine zr_iconst (v := 0) dX10_figure_23 (by decide) ?_
      refine zr_ireturn dX10_figure_24 rfl (rfl) ?_
      have eg : zfg ip n a = (false, a + 1) := by unfold zfg; rw [if_pos hk3, if_neg hc2]
      exact ⟨_, rfl, by rw [eg]; rfl, kF4, by rw [eg]; exact g0_kr1, by rw [eg]; exact kh3⟩
  · refine zr_pVi [] dX10_figure_3 vX10_244 (qX10_skips0 hX (a := a) (c := 32) h0 h5 fn hn (by omega) hk3 (by decide)) h0 (by decide) (by decide) (by decide) rfl rfl (Nat.le_of_ble_eq_true rfl) (by decide) rfl ?_
    refine zr_if_eq (tgt := 23) dX10_figure_6 (by decide) (fun c_6 => ?_) (fun c_6 => absurd (by decide) c_6)
    refine zr_iconst (v := 0) dX10_figure_23 (by decide) ?_
    refine zr_ireturn dX10_figure_24 rfl (rfl) ?_
    have eg : zfg ip n a = (false, a) := by unfold zfg; rw [if_neg hk3]
    exact ⟨_, rfl, by rw [eg]; rfl, zFr.rf (P := (fun q => q = y ∨ q = y + 11)), by rw [eg]; exact h0, by rw [eg]; exact h11⟩

set_option maxHeartbeats 400000 in
set_option maxRecDepth 100000 in
theorem qX10_letterHere {X : zX} (hX : X.1.stackTraces = false) {σ : zS} {y : Nat} {F : Nat → Int32} {ip td : Nat → Int32} {n a t : Nat} {p : Nat} (h0 : σ.1 y = zmO y (upd (upd F 25 (nI a)) 27 (nI t))) (h5 : σ.1 (y + 5) = .inl (0, 60, .inl ip)) (fn : F 13 = nI n) (hn : n ≤ 60) (ha : a ≤ n) (h11 : σ.1 (y + 11) = .inl (0, 93, .inl td)) (hp : p < 93) : zMet X mX10_letterHere yX10_letterHere 2 0 0 [.ref y, .int (nI p)] σ (zI (fun y_ s => y_ = (if (zlh ip n a).1 = true then 1 else 0) ∧ zFr σ s (fun q => q = y ∨ q = y + 11) ∧ s.1 y = zmO y (upd (upd F 25 (nI ((zlh ip n a).2))) 27 (nI t)) ∧ s.1 (y + 11) = .inl (0, 93, .inl (if (zlh ip n a).1 = true then upd td p (ip (a + 1)) else td)))) := by
  refine zMet_of (ls := [some (.ref y), some (.int (nI p))]) rfl (by decide +kernel) rfl (fun h => by cases h) hX (Nat.le_of_ble_eq_true rfl) rfl ?_
  refine zr_aload_n dX10_letterHere_0 rfl ?_
  refine zr_bipush (v := 32) dX10_letterHere_1 (by decide) ?_
  by_cases hk3 : a < n ∧ ip a = 32
  · refine zr_callVi [] dX10_letterHere_3 vX10_244 (qX10_skips1 hX (a := a) (c := 32) h0 h5 fn hn (by omega) hk3) h0 (by decide) (by decide) (by decide) rfl rfl (Nat.le_of_ble_eq_true rfl) (by decide) rfl (fun kr1 s_kr1 h_kr1 => ?_)
    obtain ⟨e_kr1, F_kr1, g0_kr1⟩ := h_kr1
    have kh2 : s_kr1.1 (y + 5) = .inl (0, 60, .inl ip) := zFr.get F_kr1 (by omega) h5
    have kh3 : s_kr1.1 (y + 11) = .inl (0, 93, .inl td) := zFr.get F_kr1 (by omega) h11
    have kF4 := zFr.tr zFr.rf (P := (fun q => q = y ∨ q = y + 11)) F_kr1 (by intro q hq; omega)
    obtain rfl := e_kr1.symm
    refine zr_if_eq (tgt := 19) dX10_letterHere_6 (by decide) (fun c_6 => absurd c_6 (by decide)) (fun c_6 => ?_)
    refine zr_aload_n dX10_letterHere_9 rfl ?_
    refine zr_pVi [] dX10_letterHere_10 vX10_231 (qX10_here hX (a := a + 1) g0_kr1 kh2 fn hn (by omega)) g0_kr1 (by decide) (by decide) (by decide) rfl rfl (Nat.le_of_ble_eq_true rfl) (by decide) rfl ?_
    refine zr_pSi [] dX10_letterHere_13 vX10_152 (qX10_read hX (c := (zhr ip n (a + 1)))) (by decide) (by decide) (by decide) rfl rfl (Nat.le_of_ble_eq_true rfl) rfl ?_
    refine zr_if_ne (tgt := 21) dX10_letterHere_16 (by decide) (fun c_16 => ?_) (fun c_16 => ?_)
    · have hc2 : a + 1 < n ∧ ¬ zlet (ip (a + 1)) = 0 := zhr_l.mp c_16
      refine zr_aload_n dX10_letterHere_21 rfl ?_
      refine zr_getM (v := .ref (y + 11)) dX10_letterHere_22 fX10_46 g0_kr1 rfl ?_
      refine zr_iload_n dX10_letterHere_25 rfl ?_
      refine zr_aload_n dX10_letterHere_26 rfl ?_
      refine zr_pVi [.int (nI p), .ref ((y + 11))] dX10_letterHere_27 vX10_231 (qX10_here hX (a := a + 1) g0_kr1 kh2 fn hn (by omega)) g0_kr1 (by decide) (by decide) (by decide) rfl rfl (Nat.le_of_ble_eq_true rfl) (by decide) rfl ?_
      refine zr_eqi (x' := (ip (a + 1))) (zhr_y hc2.1) ?_
      refine zr_iastore dX10_letterHere_30 kh3 (vp_in_nI (n := p) (by omega) (by omega)) ?_
      rw [nI_clamp (n := p) (by omega)]
      refine zr_sig (fun ks5 e_ks5 => ?_)
      have kh6 : ks5.1 y = zmO y (upd (upd F 25 (nI (a + 1))) 27 (nI t)) := by rw [e_ks5, zup_ne _ _ (by omega)]; exact g0_kr1
      have kh7 : ks5.1 (y + 5) = .inl (0, 60, .inl ip) := by rw [e_ks5, zup_ne _ _ (by omega)]; exact kh2
      have kh8 : ks5.1 (y + 11) = .inl (0, 93, .inl (upd td p (ip (a + 1)))) := by rw [e_ks5]; exact zup_at _ _ _
      have kF9 := zFr.put kF4 e_ks5 (by first | omega | simp)
      refine zr_aload_n dX10_letterHere_31 rfl ?_
      refine zr_dup dX10_letterHere_32 rfl ?_
      refine zr_getM (v := .int (nI (a + 1))) dX10_letterHere_33 fX10_228 kh6 rfl ?_
      refine zr_iconst (v := 1) dX10_letterHere_36 (by decide) ?_
      refine zr_iadd dX10_letterHere_37 ?_
      refine zr_eqi (x' := nI ((a + 1) + 1)) (nI_add (a + 1) 1) ?_
      refine zr_putM (v := nI ((a + 1) + 1)) dX10_letterHere_38 pX10_228 kh6 (rfl) (rfl) (Nat.le_of_ble_eq_true rfl) (zms_25 _ _ _) ?_
      refine zr_sig (fun ks10 e_ks10 => ?_)
      have kh11 : ks10.1 y = zmO y (upd (upd F 25 (nI ((a + 1) + 1))) 27 (nI t)) := by rw [e_ks10]; exact zup_at _ _ _
      have kh12 : ks10.1 (y + 5) = .inl (0, 60, .inl ip) := by rw [e_ks10, zup_ne _ _ (by omega)]; exact kh7
      have kh13 : ks10.1 (y + 11) = .inl (0, 93, .inl (upd td p (ip (a + 1)))) := by rw [e_ks10, zup_ne _ _ (by omega)]; exact kh8
      have kF14 := zFr.put kF9 e_ks10 (by first | omega | simp)
      refine zr_iconst (v := 1) dX10_letterHere_41 (by decide) ?_
      refine zr_ireturn dX10_letterHere_42 rfl (rfl) ?_
      have eg : zlh ip n a = (true, a + 1 + 1) := by unfold zlh; rw [if_pos hk3, if_pos hc2]
      exact ⟨_, rfl, by rw [eg]; rfl, kF14, by rw [eg]; exact kh11, by rw [eg]; exact kh13⟩
    · have hc2 : ¬ (a + 1 < n ∧ ¬ zlet (ip (a + 1)) = 0) := fun q => zhr_l.mpr q c_16
      refine zr_iconst (v := 0) dX10_letterHere_19 (by decide) ?_
      refine zr_ireturn dX10_letterHere_20 rfl (rfl) ?_
      have eg : zlh ip n a = (false, a + 1) := by unfold zlh; rw [if_pos hk3, if_neg hc2]
      exact ⟨_, rfl, by rw [eg]; rfl, kF4, by rw [eg]; exact g0_kr1, by rw [eg]; exact kh3⟩
  · refine zr_pVi [] dX10_letterHere_3 vX10_244 (qX10_skips0 hX (a := a) (c := 32) h0 h5 fn hn (by omega) hk3 (by decide)) h0 (by decide) (by decide) (by decide) rfl rfl (Nat.le_of_ble_eq_true rfl) (by decide) rfl ?_
    refine zr_if_eq (tgt := 19) dX10_letterHere_6 (by decide) (fun c_6 => ?_) (fun c_6 => absurd (by decide) c_6)
    refine zr_iconst (v := 0) dX10_letterHere_19 (by decide) ?_
    refine zr_ireturn dX10_letterHere_20 rfl (rfl) ?_
    have eg : zlh ip n a = (false, a) := by unfold zlh; rw [if_neg hk3]
    exact ⟨_, rfl, by rw [eg]; rfl, zFr.rf (P := (fun q => q = y ∨ q = y + 11)), by rw [eg]; exact h0, by rw [eg]; exact h11⟩

