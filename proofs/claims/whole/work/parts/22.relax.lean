set_option maxHeartbeats 400000 in
set_option maxRecDepth 100000 in
theorem qX6_begin {X : zX} (hX : X.1.stackTraces = false) {σ : zS} {r d h : Nat} {v2 v3 v4 v5 : Value} (h0 : σ.1 r = .inr (4, [.ref d, .ref h, v2, v3, v4, v5])) : zMet X mX6_begin yX6_begin 0 0 0 [.ref r] σ (zV (fun s => zFr σ s (fun q => q = r) ∧ s.1 r = .inr (4, [.ref d, .ref h, .int (nI 0), .int (nI 0), .int (nI 0), .int 0]))) := by
  refine zMet_of (ls := [some (.ref r)]) rfl (by decide +kernel) rfl (fun h => by cases h) hX (Nat.le_of_ble_eq_true rfl) rfl ?_
  refine zr_aload_n dX6_begin_0 rfl ?_
  refine zr_iconst (v := 0) dX6_begin_1 (by decide) ?_
  refine zr_putfield (fs' := [.ref d, .ref h, .int 0, v3, v4, v5]) dX6_begin_2 pX6_18 h0 (by decide) (rfl) (rfl) (Nat.le_of_ble_eq_true rfl) rfl ?_
  refine zr_sig (fun ks1 e_ks1 => ?_)
  have kh2 : ks1.1 r = .inr (4, [.ref d, .ref h, .int 0, v3, v4, v5]) := by rw [e_ks1]; exact zup_at _ _ _
  have kF3 := zFr.put zFr.rf (P := fun q => q = r) e_ks1 (by first | omega | simp)
  refine zr_aload_n dX6_begin_5 rfl ?_
  refine zr_iconst (v := 0) dX6_begin_6 (by decide) ?_
  refine zr_putfield (fs' := [.ref d, .ref h, .int 0, .int 0, v4, v5]) dX6_begin_7 pX6_22 kh2 (by decide) (rfl) (rfl) (Nat.le_of_ble_eq_true rfl) rfl ?_
  refine zr_sig (fun ks4 e_ks4 => ?_)
  have kh5 : ks4.1 r = .inr (4, [.ref d, .ref h, .int 0, .int 0, v4, v5]) := by rw [e_ks4]; exact zup_at _ _ _
  have kF6 := zFr.put kF3 e_ks4 (by first | omega | simp)
  refine zr_aload_n dX6_begin_10 rfl ?_
  refine zr_iconst (v := 0) dX6_begin_11 (by decide) ?_
  refine zr_putfield (fs' := [.ref d, .ref h, .int 0, .int 0, .int 0, v5]) dX6_begin_12 pX6_25 kh5 (by decide) (rfl) (rfl) (Nat.le_of_ble_eq_true rfl) rfl ?_
  refine zr_sig (fun ks7 e_ks7 => ?_)
  have kh8 : ks7.1 r = .inr (4, [.ref d, .ref h, .int 0, .int 0, .int 0, v5]) := by rw [e_ks7]; exact zup_at _ _ _
  have kF9 := zFr.put kF6 e_ks7 (by first | omega | simp)
  refine zr_aload_n dX6_begin_15 rfl ?_
  refine zr_iconst (v := 0) dX6_begin_16 (by decide) ?_
  refine zr_putfield (fs' := [.ref d, .ref h, .int 0, .int 0, .int 0, .int 0]) dX6_begin_17 pX6_28 kh8 (by decide) (rfl) (rfl) (Nat.le_of_ble_eq_true rfl) rfl ?_
  refine zr_sig (fun ks10 e_ks10 => ?_)
  have kh11 : ks10.1 r = .inr (4, [.ref d, .ref h, .int 0, .int 0, .int 0, .int 0]) := by rw [e_ks10]; exact zup_at _ _ _
  have kF12 := zFr.put kF9 e_ks10 (by first | omega | simp)
  exact zr_return dX6_begin_20 rfl (⟨rfl, kF12, kh11⟩)

set_option maxHeartbeats 400000 in
set_option maxRecDepth 100000 in
theorem qX6_push {X : zX} (hX : X.1.stackTraces = false) {σ : zS} {r d h n m c : Nat} {g : Nat → Int32} {fl : Int32} (l : Int32) (hrh : r ≠ h) (h0 : σ.1 r = .inr (4, [.ref d, .ref h, .int (nI n), .int (nI m), .int (nI c), .int fl])) (h2 : σ.1 h = .inl (0, 400, .inl g)) (hm : m < 400) : zMet X mX6_push yX6_push 0 0 0 [.ref r, .int l] σ (zV (fun s => zFr σ s (fun q => q = r ∨ q = h) ∧ s.1 r = .inr (4, [.ref d, .ref h, .int (nI n), .int (nI (m + 1)), .int (nI c), .int fl]) ∧ s.1 h = .inl (0, 400, .inl (upd g m l)))) := by
  refine zMet_of (ls := [some (.ref r), some (.int l)]) rfl (by decide +kernel) rfl (fun h => by cases h) hX (Nat.le_of_ble_eq_true rfl) rfl ?_
  refine zr_aload_n dX6_push_0 rfl ?_
  refine zr_getfield dX6_push_1 fX6_22 h0 rfl (by decide) ?_
  refine zr_sipush (v := 400) dX6_push_4 (by decide) ?_
  refine zr_icmp_ge (tgt := 30) dX6_push_7 (by decide) (fun c_7 => absurd c_7 (fun h => absurd ((nI_leI (a := 400) (b := m) (by omega) (by omega)).mp h) (by omega))) (fun c_7 => ?_)
  refine zr_aload_n dX6_push_10 rfl ?_
  refine zr_getfield dX6_push_11 fX6_15 h0 rfl (by decide) ?_
  refine zr_aload_n dX6_push_14 rfl ?_
  refine zr_getfield dX6_push_15 fX6_22 h0 rfl (by decide) ?_
  refine zr_iload_n dX6_push_18 rfl ?_
  refine zr_iastore dX6_push_19 h2 (vp_in_nI (n := m) (by omega) (by omega)) ?_
  rw [nI_clamp (n := m) (by omega)]
  refine zr_sig (fun ks1 e_ks1 => ?_)
  have kh2 : ks1.1 r = .inr (4, [.ref d, .ref h, .int (nI n), .int (nI m), .int (nI c), .int fl]) := by rw [e_ks1, zup_ne _ _ (by omega)]; exact h0
  have kh3 : ks1.1 h = .inl (0, 400, .inl (upd g m l)) := by rw [e_ks1]; exact zup_at _ _ _
  have kF4 := zFr.put zFr.rf (P := fun q => q = r ∨ q = h) e_ks1 (by first | omega | simp)
  refine zr_aload_n dX6_push_20 rfl ?_
  refine zr_dup dX6_push_21 rfl ?_
  refine zr_getfield dX6_push_22 fX6_22 kh2 rfl (by decide) ?_
  refine zr_iconst (v := 1) dX6_push_25 (by decide) ?_
  refine zr_iadd dX6_push_26 ?_
  refine zr_eqi (x' := nI (m + 1)) (nI_add m 1) ?_
  refine zr_putfield (fs' := [.ref d, .ref h, .int (nI n), .int (nI (m + 1)), .int (nI c), .int fl]) dX6_push_27 pX6_22 kh2 (by decide) (rfl) (rfl) (Nat.le_of_ble_eq_true rfl) rfl ?_
  refine zr_sig (fun ks5 e_ks5 => ?_)
  have kh6 : ks5.1 r = .inr (4, [.ref d, .ref h, .int (nI n), .int (nI (m + 1)), .int (nI c), .int fl]) := by rw [e_ks5]; exact zup_at _ _ _
  have kh7 : ks5.1 h = .inl (0, 400, .inl (upd g m l)) := by rw [e_ks5, zup_ne _ _ (by omega)]; exact kh3
  have kF8 := zFr.put kF4 e_ks5 (by first | omega | simp)
  exact zr_return dX6_push_30 rfl (⟨rfl, kF8, kh6, kh7⟩)

set_option maxHeartbeats 400000 in
set_option maxRecDepth 100000 in
theorem qX6_takeNext {X : zX} (hX : X.1.stackTraces = false) {σ : zS} {r d h n m c : Nat} {f g : Nat → Int32} {fl : Int32} (hrd : r ≠ d) (hrh : r ≠ h) (hdh : d ≠ h) (h0 : σ.1 r = .inr (4, [.ref d, .ref h, .int (nI n), .int (nI m), .int (nI c), .int fl])) (h1 : σ.1 d = .inl (0, 400, .inl f)) (h2 : σ.1 h = .inl (0, 400, .inl g)) (hn : n < 400) (hm : 0 < m) (hm4 : m ≤ 400) : zMet X mX6_takeNext yX6_takeNext 0 0 0 [.ref r] σ (zV (fun s => zFr σ s (fun q => q = r ∨ q = d) ∧ s.1 r = .inr (4, [.ref d, .ref h, .int (nI (n + 1)), .int (nI (m - 1)), .int (nI c), .int fl]) ∧ s.1 d = .inl (0, 400, .inl (upd f n (g (m - 1)))))) := by
  refine zMet_of (ls := [some (.ref r)]) rfl (by decide +kernel) rfl (fun h => by cases h) hX (Nat.le_of_ble_eq_true rfl) rfl ?_
  refine zr_aload_n dX6_takeNext_0 rfl ?_
  refine zr_getfield dX6_takeNext_1 fX6_18 h0 rfl (by decide) ?_
  refine zr_sipush (v := 400) dX6_takeNext_4 (by decide) ?_
  refine zr_icmp_ge (tgt := 48) dX6_takeNext_7 (by decide) (fun c_7 => absurd c_7 (fun h => absurd ((nI_leI (a := 400) (b := n) (by omega) (by omega)).mp h) (by omega))) (fun c_7 => ?_)
  refine zr_aload_n dX6_takeNext_10 rfl ?_
  refine zr_dup dX6_takeNext_11 rfl ?_
  refine zr_getfield dX6_takeNext_12 fX6_22 h0 rfl (by decide) ?_
  refine zr_iconst (v := 1) dX6_takeNext_15 (by decide) ?_
  refine zr_isub dX6_takeNext_16 ?_
  refine zr_eqi (x' := nI (m - 1)) (pk_sub (a := m) (b := 1) (by omega)) ?_
  refine zr_putfield (fs' := [.ref d, .ref h, .int (nI n), .int (nI (m - 1)), .int (nI c), .int fl]) dX6_takeNext_17 pX6_22 h0 (by decide) (rfl) (rfl) (Nat.le_of_ble_eq_true rfl) rfl ?_
  refine zr_sig (fun ks1 e_ks1 => ?_)
  have kh2 : ks1.1 r = .inr (4, [.ref d, .ref h, .int (nI n), .int (nI (m - 1)), .int (nI c), .int fl]) := by rw [e_ks1]; exact zup_at _ _ _
  have kh3 : ks1.1 d = .inl (0, 400, .inl f) := by rw [e_ks1, zup_ne _ _ (by omega)]; exact h1
  have kh4 : ks1.1 h = .inl (0, 400, .inl g) := by rw [e_ks1, zup_ne _ _ (by omega)]; exact h2
  have kF5 := zFr.put zFr.rf (P := fun q => q = r ∨ q = d) e_ks1 (by first | omega | simp)
  refine zr_aload_n dX6_takeNext_20 rfl ?_
  refine zr_getfield dX6_takeNext_21 fX6_9 kh2 rfl (by decide) ?_
  refine zr_aload_n dX6_takeNext_24 rfl ?_
  refine zr_getfield dX6_takeNext_25 fX6_18 kh2 rfl (by decide) ?_
  refine zr_aload_n dX6_takeNext_28 rfl ?_
  refine zr_getfield dX6_takeNext_29 fX6_15 kh2 rfl (by decide) ?_
  refine zr_aload_n dX6_takeNext_32 rfl ?_
  refine zr_getfield dX6_takeNext_33 fX6_22 kh2 rfl (by decide) ?_
  refine zr_iaload dX6_takeNext_36 kh4 (vp_in_nI (n := m - 1) (by omega) (by omega)) ?_
  rw [nI_clamp (n := m - 1) (by omega)]
  refine zr_iastore dX6_takeNext_37 kh3 (vp_in_nI (n := n) (by omega) (by omega)) ?_
  rw [nI_clamp (n := n) (by omega)]
  refine zr_sig (fun ks6 e_ks6 => ?_)
  have kh7 : ks6.1 r = .inr (4, [.ref d, .ref h, .int (nI n), .int (nI (m - 1)), .int (nI c), .int fl]) := by rw [e_ks6, zup_ne _ _ (by omega)]; exact kh2
  have kh8 : ks6.1 d = .inl (0, 400, .inl (upd f n (g (m - 1)))) := by rw [e_ks6]; exact zup_at _ _ _
  have kh9 : ks6.1 h = .inl (0, 400, .inl g) := by rw [e_ks6, zup_ne _ _ (by omega)]; exact kh4
  have kF10 := zFr.put kF5 e_ks6 (by first | omega | simp)
  refine zr_aload_n dX6_takeNext_38 rfl ?_
  refine zr_dup dX6_takeNext_39 rfl ?_
  refine zr_getfield dX6_takeNext_40 fX6_18 kh7 rfl (by decide) ?_
  refine zr_iconst (v := 1) dX6_takeNext_43 (by decide) ?_
  refine zr_iadd dX6_takeNext_44 ?_
  refine zr_eqi (x' := nI (n + 1)) (nI_add n 1) ?_
  refine zr_putfield (fs' := [.ref d, .ref h, .int (nI (n + 1)), .int (nI (m - 1)), .int (nI c), .int fl]) dX6_takeNext_45 pX6_18 kh7 (by decide) (rfl) (rfl) (Nat.le_of_ble_eq_true rfl) rfl ?_
  refine zr_sig (fun ks11 e_ks11 => ?_)
  have kh12 : ks11.1 r = .inr (4, [.ref d, .ref h, .int (nI (n + 1)), .int (nI (m - 1)), .int (nI c), .int fl]) := by rw [e_ks11]; exact zup_at _ _ _
  have kh13 : ks11.1 d = .inl (0, 400, .inl (upd f n (g (m - 1)))) := by rw [e_ks11, zup_ne _ _ (by omega)]; exact kh8
  have kh14 : ks11.1 h = .inl (0, 400, .inl g) := by rw [e_ks11, zup_ne _ _ (by omega)]; exact kh9
  have kF15 := zFr.put kF10 e_ks11 (by first | omega | simp)
  exact zr_return dX6_takeNext_48 rfl (⟨rfl, kF15, kh12, kh13⟩)

set_option maxHeartbeats 400000 in
set_option maxRecDepth 100000 in
theorem l_putAhead {X : zX} (hX : X.1.stackTraces = false) {σ : zS} {r d h n c w a k M : Nat} {e : Nat → Int32} {fl : Int32} {L : List Int32} (hrh : r ≠ h) (hM : M ≤ 400) (hw : σ.1 w = .inr (6, [.ref a, .int (nI k)])) (ha : σ.1 a = .inl (0, 16, .inl e)) (hk : k ≤ 16) (hwr : w ≠ r) (hwh : w ≠ h) (har : a ≠ r) (hah : a ≠ h) : ∀ (i : Nat) (s : zS) (m : Nat) (g : Nat → Int32), (i ≤ k) → (m + i = M) → (zFr σ s (fun q => q = r ∨ q = h)) → (s.1 r = .inr (4, [.ref d, .ref h, .int (nI n), .int (nI m), .int (nI c), .int fl])) → (s.1 h = .inl (0, 400, .inl g)) → (zP e i ++ zA_ g m = L) → zW X mX6_putAhead 1 0 0 (zV (fun t => ∃ g1, zFr σ t (fun q => q = r ∨ q = h) ∧ t.1 r = .inr (4, [.ref d, .ref h, .int (nI n), .int (nI M), .int (nI c), .int fl]) ∧ t.1 h = .inl (0, 400, .inl g1) ∧ zA_ g1 M = L)) 7 [some (.ref r), some (.ref w), some (.int ((nI i - 1)))] [] s := by
  intro i
  induction i with
  | zero =>
    intro s m g hi hm hF h0 h2 hl
    have kw := zFr.get hF (by omega) hw
    have ka := zFr.get hF (by omega) ha
    refine zr_iload_n dX6_putAhead_7 rfl ?_
    refine zr_if_lt (tgt := 27) dX6_putAhead_8 (by decide) (fun c_8 => ?_) (fun c_8 => absurd (by decide) c_8)
    exact zr_return dX6_putAhead_27 rfl (by have e1 : m = M := (by omega); subst e1; exact ⟨rfl, g, hF, h0, h2, hl⟩)
  | succ i ih =>
    intro s m g hi hm hF h0 h2 hl
    rw [show nI (i + 1) - 1 = nI i from nI_pred i]
    have kw := zFr.get hF (by omega) hw
    have ka := zFr.get hF (by omega) ha
    refine zr_iload_n dX6_putAhead_7 rfl ?_
    refine zr_if_lt (tgt := 27) dX6_putAhead_8 (by decide) (fun c_8 => absurd c_8 (nI_pos (by omega))) (fun c_8 => ?_)
    refine zr_aload_n dX6_putAhead_11 rfl ?_
    refine zr_aload_n dX6_putAhead_12 rfl ?_
    refine zr_getfield dX6_putAhead_13 fX6_47 kw rfl (by decide) ?_
    refine zr_iload_n dX6_putAhead_16 rfl ?_
    refine zr_iaload dX6_putAhead_17 ka (vp_in_nI (n := i) (by omega) (by omega)) ?_
    rw [nI_clamp (n := i) (by omega)]
    refine zr_callVv [] dX6_putAhead_18 vX6_50 (qX6_push hX (m := m) (e i) (by omega) h0 h2 (by omega)) h0 (by decide) (by decide) (by decide) rfl rfl (Nat.le_of_ble_eq_true rfl) (by decide) rfl (fun s_kr1 h_kr1 => ?_)
    obtain ⟨F_kr1, g0_kr1, g1_kr1⟩ := h_kr1
    have kh2 : s_kr1.1 w = .inr (6, [.ref a, .int (nI k)]) := zFr.get F_kr1 (by omega) kw
    have kh3 : s_kr1.1 a = .inl (0, 16, .inl e) := zFr.get F_kr1 (by omega) ka
    have kF4 := zFr.tr hF F_kr1 (by intro q hq; omega)
    refine zr_iinc (v := nI i + (-1)) (ls' := [some (.ref r), some (.ref w), some (.int ((nI i + (-1))))]) dX6_putAhead_21 rfl (by rfl) (by decide) rfl ?_
    refine zr_goto (tgt := 7) dX6_putAhead_24 (by decide) ?_
    rw [z_m1]; exact ih _ _ _ (by omega) (by omega) (kF4) (g0_kr1) (g1_kr1) (by rw [← hl, zA_push]; simp only [zP, List.append_assoc, List.cons_append, List.nil_append])

set_option maxHeartbeats 400000 in
set_option maxRecDepth 100000 in
theorem qX6_putAhead {X : zX} (hX : X.1.stackTraces = false) {σ : zS} {r d h n m c w a k : Nat} {g e : Nat → Int32} {fl : Int32} (hrh : r ≠ h) (h0 : σ.1 r = .inr (4, [.ref d, .ref h, .int (nI n), .int (nI m), .int (nI c), .int fl])) (h2 : σ.1 h = .inl (0, 400, .inl g)) (hm : m + k ≤ 400) (hw : σ.1 w = .inr (6, [.ref a, .int (nI k)])) (ha : σ.1 a = .inl (0, 16, .inl e)) (hk : k ≤ 16) (hwr : w ≠ r) (hwh : w ≠ h) (har : a ≠ r) (hah : a ≠ h) : zMet X mX6_putAhead yX6_putAhead 1 0 0 [.ref r, .ref w] σ (zV (fun t => ∃ g1, zFr σ t (fun q => q = r ∨ q = h) ∧ t.1 r = .inr (4, [.ref d, .ref h, .int (nI n), .int (nI (m + k)), .int (nI c), .int fl]) ∧ t.1 h = .inl (0, 400, .inl g1) ∧ zA_ g1 (m + k) = zP e k ++ zA_ g m)) := by
  refine zMet_of (ls := [some (.ref r), some (.ref w), none]) rfl (by decide +kernel) rfl (fun h => by cases h) hX (Nat.le_of_ble_eq_true rfl) rfl ?_
  refine zr_aload_n dX6_putAhead_0 rfl ?_
  refine zr_getfield dX6_putAhead_1 fX6_42 hw rfl (by decide) ?_
  refine zr_iconst (v := 1) dX6_putAhead_4 (by decide) ?_
  refine zr_isub dX6_putAhead_5 ?_
  refine zr_eqi (x' := nI k - 1) (rfl) ?_
  refine zr_istore_n (ls' := [some (.ref r), some (.ref w), some (.int (nI k - 1))]) dX6_putAhead_6 rfl (by decide) rfl ?_
  exact l_putAhead hX hrh (by omega) hw ha hk hwr hwh har hah k _ _ _ (Nat.le_refl _) rfl zFr.rf h0 h2 rfl

theorem zsl_split (f : Nat → Int32) (i k : Nat) : zSl f i (k + 1) = zSl f i k ++ [f (i + k)] := rfl
theorem zct_s (v : Int32) (f : Nat → Int32) (i k : Nat) : zct v (zSl f i (k + 1)) = zct v (zSl f i k) + (if f (i + k) = v ∨ f (i + k) = -v then 1 else 0) := by
  unfold zct
  simp only [zSl, List.countP_append, List.countP_cons, List.countP_nil, Nat.zero_add, decide_eq_true_eq]
theorem zct_le (v : Int32) (L : List Int32) : zct v L ≤ L.length := List.countP_le_length

set_option maxHeartbeats 400000 in
set_option maxRecDepth 100000 in
theorem l_cr {X : zX} (hX : X.1.stackTraces = false) {σ : zS} {r d h n m c : Nat} {f : Nat → Int32} {fl : Int32} {a : Nat} {v : Int32} (h0 : σ.1 r = .inr (4, [.ref d, .ref h, .int (nI n), .int (nI m), .int (nI c), .int fl])) (h1 : σ.1 d = .inl (0, 400, .inl f)) (hn : n ≤ 400) (ha : a + 1 < n) : ∀ (k i : Nat) (x : Nat), i + k = (n - 1 - (a + 1)) → (x = zct v (zSl f (a + 1) i)) → zW X mX6_countInside 1 0 0 (zI (fun x s => x = nI (zct v (zSl f (a + 1) (n - 1 - (a + 1)))) ∧ s = σ)) 7 [some (.ref r), some (.int (nI a)), some (.int v), some (.int (nI x)), some (.int (nI (a + 1 + i)))] [] σ := by
  intro k
  induction k with
  | zero =>
    intro i x hi hx
    refine zr_iload dX6_countInside_7 rfl ?_
    refine zr_aload_n dX6_countInside_9 rfl ?_
    refine zr_getfield dX6_countInside_10 fX6_18 h0 rfl (by decide) ?_
    refine zr_iconst (v := 1) dX6_countInside_13 (by decide) ?_
    refine zr_isub dX6_countInside_14 ?_
    refine zr_eqi (x' := nI (n - 1)) (pk_sub (a := n) (b := 1) (by omega)) ?_
    refine zr_icmp_ge (tgt := 50) dX6_countInside_15 (by decide) (fun c_15 => ?_) (fun c_15 => absurd ((nI_leI (a := n - 1) (b := a + 1 + i) (by omega) (by omega)).mpr (by omega)) c_15)
    refine zr_iload_n dX6_countInside_50 rfl ?_
    exact zr_ireturn dX6_countInside_51 rfl (rfl) (by have e : i = n - 1 - (a + 1) := (by omega); subst e; exact ⟨_, rfl, congrArg nI hx, rfl⟩)
  | succ k ih =>
    intro i x hi hx
    refine zr_iload dX6_countInside_7 rfl ?_
    refine zr_aload_n dX6_countInside_9 rfl ?_
    refine zr_getfield dX6_countInside_10 fX6_18 h0 rfl (by decide) ?_
    refine zr_iconst (v := 1) dX6_countInside_13 (by decide) ?_
    refine zr_isub dX6_countInside_14 ?_
    refine zr_eqi (x' := nI (n - 1)) (pk_sub (a := n) (b := 1) (by omega)) ?_
    refine zr_icmp_ge (tgt := 50) dX6_countInside_15 (by decide) (fun c_15 => absurd c_15 (fun h => absurd ((nI_leI (a := n - 1) (b := a + 1 + i) (by omega) (by omega)).mp h) (by omega))) (fun c_15 => ?_)
    refine zr_aload_n dX6_countInside_18 rfl ?_
    refine zr_getfield dX6_countInside_19 fX6_9 h0 rfl (by decide) ?_
    refine zr_iload dX6_countInside_22 rfl ?_
    refine zr_iaload dX6_countInside_24 h1 (vp_in_nI (n := a + 1 + i) (by omega) (by omega)) ?_
    rw [nI_clamp (n := a + 1 + i) (by omega)]
    refine zr_iload_n dX6_countInside_25 rfl ?_
    refine zr_icmp_eq (tgt := 41) dX6_countInside_26 (by decide) (fun c_26 => ?_) (fun c_26 => ?_)
    · refine zr_iinc (v := nI (x + 1)) (ls' := [some (.ref r), some (.int (nI a)), some (.int v), some (.int (nI (x + 1))), some (.int (nI (a + 1 + i)))]) dX6_countInside_41 rfl (nI_1 _) (by decide) rfl ?_
      refine zr_iinc (v := nI (a + 1 + i + 1)) (ls' := [some (.ref r), some (.int (nI a)), some (.int v), some (.int (nI (x + 1))), some (.int (nI (a + 1 + i + 1)))]) dX6_countInside_44 rfl (nI_1 _) (by decide) rfl ?_
      refine zr_goto (tgt := 7) dX6_countInside_47 (by decide) ?_
      exact ih (i + 1) _ (by omega) (by rw [zct_s, hx, if_pos (Or.inl c_26)])
    · refine zr_aload_n dX6_countInside_29 rfl ?_
      refine zr_getfield dX6_countInside_30 fX6_9 h0 rfl (by decide) ?_
      refine zr_iload dX6_countInside_33 rfl ?_
      refine zr_iaload dX6_countInside_35 h1 (vp_in_nI (n := a + 1 + i) (by omega) (by omega)) ?_
      rw [nI_clamp (n := a + 1 + i) (by omega)]
      refine zr_iload_n dX6_countInside_36 rfl ?_
      refine zr_ineg dX6_countInside_37 ?_
      refine zr_icmp_ne (tgt := 44) dX6_countInside_38 (by decide) (fun c_38 => ?_) (fun c_38 => ?_)
      · refine zr_iinc (v := nI (a + 1 + i + 1)) (ls' := [some (.ref r), some (.int (nI a)), some (.int v), some (.int (nI x)), some (.int (nI (a + 1 + i + 1)))]) dX6_countInside_44 rfl (nI_1 _) (by decide) rfl ?_
        refine zr_goto (tgt := 7) dX6_countInside_47 (by decide) ?_
        exact ih (i + 1) _ (by omega) (by rw [zct_s, hx, if_neg (fun q => q.elim c_26 c_38)]; rfl)
      · refine zr_iinc (v := nI (x + 1)) (ls' := [some (.ref r), some (.int (nI a)), some (.int v), some (.int (nI (x + 1))), some (.int (nI (a + 1 + i)))]) dX6_countInside_41 rfl (nI_1 _) (by decide) rfl ?_
        refine zr_iinc (v := nI (a + 1 + i + 1)) (ls' := [some (.ref r), some (.int (nI a)), some (.int v), some (.int (nI (x + 1))), some (.int (nI (a + 1 + i + 1)))]) dX6_countInside_44 rfl (nI_1 _) (by decide) rfl ?_
        refine zr_goto (tgt := 7) dX6_countInside_47 (by decide) ?_
        exact ih (i + 1) _ (by omega) (by rw [zct_s, hx, if_pos (Or.inr c_38)])

set_option maxHeartbeats 400000 in
set_option maxRecDepth 100000 in
theorem qX6_countInside {X : zX} (hX : X.1.stackTraces = false) {σ : zS} {r d h n m c : Nat} {f : Nat → Int32} {fl : Int32} {a : Nat} {v : Int32} (h0 : σ.1 r = .inr (4, [.ref d, .ref h, .int (nI n), .int (nI m), .int (nI c), .int fl])) (h1 : σ.1 d = .inl (0, 400, .inl f)) (hn : n ≤ 400) (ha : a + 1 < n) : zMet X mX6_countInside yX6_countInside 1 0 0 [.ref r, .int (nI a), .int v] σ (zI (fun x s => x = nI (zct v (zSl f (a + 1) (n - 1 - (a + 1)))) ∧ s = σ)) := by
  refine zMet_of (ls := [some (.ref r), some (.int (nI a)), some (.int v), none, none]) rfl (by decide +kernel) rfl (fun h => by cases h) hX (Nat.le_of_ble_eq_true rfl) rfl ?_
  refine zr_iconst (v := 0) dX6_countInside_0 (by decide) ?_
  refine zr_istore_n (ls' := [some (.ref r), some (.int (nI a)), some (.int v), some (.int 0), none]) dX6_countInside_1 rfl (by decide) rfl ?_
  refine zr_iload_n dX6_countInside_2 rfl ?_
  refine zr_iconst (v := 1) dX6_countInside_3 (by decide) ?_
  refine zr_iadd dX6_countInside_4 ?_
  refine zr_eqi (x' := nI (a + 1)) (nI_add a 1) ?_
  refine zr_istore (ls' := [some (.ref r), some (.int (nI a)), some (.int v), some (.int 0), some (.int (nI (a + 1)))]) dX6_countInside_5 (by decide) rfl ?_
  exact l_cr hX h0 h1 hn ha (n - 1 - (a + 1)) 0 0 (by omega) rfl

/-- a letter -/
def zLt (x : Int32) : Prop := x = 1 ∨ x = 2 ∨ x = 3 ∨ x = 4 ∨ x = -1 ∨ x = -2 ∨ x = -3 ∨ x = -4
theorem zvv {v y : Int32} (h0 : 0 < v) (h1 : -v < 0) : (y = v ∨ y = -v) ↔ zix y = v := by
  unfold zix
  by_cases h : y < 0
  · rw [if_pos h]
    constructor
    · rintro (q | q)
      · subst q; exact absurd (Int32.lt_trans h0 h) Int32.lt_irrefl
      · rw [q, Int32.neg_neg]
    · intro q; right; rw [← q, Int32.neg_neg]
  · rw [if_neg h]
    constructor
    · rintro (q | q)
      · exact q
      · exact absurd (q ▸ h1) h
    · intro q; exact Or.inl q
theorem zrp_len {x : Int32} (hx : zLt x) (y : Int32) : (zrp x y).length = 1 + 2 * (if y = zix x + 1 ∨ y = -(zix x + 1) then 1 else 0) := by
  have hv : (0 : Int32) < zix x + 1 ∧ -(zix x + 1) < 0 := by
    rcases hx with rfl | rfl | rfl | rfl | rfl | rfl | rfl | rfl <;> decide +kernel
  unfold zrp
  by_cases h : zix y = zix x + 1
  · rw [if_pos h, if_pos ((zvv hv.1 hv.2).mpr h)]; rfl
  · rw [if_neg h, if_neg (fun q => h ((zvv hv.1 hv.2).mp q))]; rfl
theorem zfl_len {x : Int32} (hx : zLt x) : ∀ L : List Int32, (L.flatMap (zrp x)).length = L.length + 2 * zct (zix x + 1) L
  | [] => rfl
  | y :: L => by
    have ih := zfl_len hx L
    unfold zct at ih ⊢
    rw [List.flatMap_cons, List.length_append, ih, zrp_len hx, List.length_cons, List.countP_cons]
    simp only [decide_eq_true_eq]
    omega
theorem zA_3 (g : Nat → Int32) (m : Nat) (x y z : Int32) : zA_ (upd (upd (upd g m x) (m + 1) y) (m + 1 + 1) z) (m + 1 + 1 + 1) = z :: y :: x :: zA_ g m := by rw [zA_push, zA_push, zA_push]

set_option maxHeartbeats 400000 in
set_option maxRecDepth 100000 in
theorem l_reduce {X : zX} (hX : X.1.stackTraces = false) {σ : zS} {r d h n c a M : Nat} {f : Nat → Int32} {fl v3 : Int32} {L : List Int32} (hrd : r ≠ d) (hrh : r ≠ h) (hdh : d ≠ h) (hM : M ≤ 400) (hn : n ≤ 400) (ha : a + 1 < n) (h1 : σ.1 d = .inl (0, 400, .inl f)) : ∀ (i : Nat) (s : zS) (m : Nat) (g : Nat → Int32), (a + i + 1 < n) → (((zSl f (a + 1) i).flatMap (zrp (f a))).length + m = M) → (zFr σ s (fun q => q = r ∨ q = h)) → (s.1 r = .inr (4, [.ref d, .ref h, .int (nI n), .int (nI m), .int (nI (c + 1)), .int fl])) → (s.1 h = .inl (0, 400, .inl g)) → (((zSl f (a + 1) i).flatMap (zrp (f a))) ++ zA_ g m = L) → zW X mX6_reduce 2 0 0 (zV (fun t => ∃ g1, zFr σ t (fun q => q = r ∨ q = h) ∧ t.1 r = .inr (4, [.ref d, .ref h, .int (nI a), .int (nI M), .int (nI (c + 1)), .int fl]) ∧ t.1 h = .inl (0, 400, .inl g1) ∧ zA_ g1 M = L)) 78 [some (.ref r), some (.int (nI a)), some (.int ((f a))), some (.int ((zix (f a)))), some (.int v3), some (.int (nI (a + i)))] [] s := by
  intro i
  induction i with
  | zero =>
    intro s m g hi hm hF h0 h2 hl
    have kd := zFr.get hF (by omega) h1
    refine zr_iload dX6_reduce_78 rfl ?_
    refine zr_iload_n dX6_reduce_80 rfl ?_
    refine zr_icmp_le (tgt := 164) dX6_reduce_81 (by decide) (fun c_81 => ?_) (fun c_81 => absurd ((nI_leI (a := a + 0) (b := a) (by omega) (by omega)).mpr (by omega)) c_81)
    refine zr_aload_n dX6_reduce_164 rfl ?_
    refine zr_iload_n dX6_reduce_165 rfl ?_
    refine zr_putfield (fs' := [.ref d, .ref h, .int (nI a), .int (nI m), .int (nI (c + 1)), .int fl]) dX6_reduce_166 pX6_18 h0 (by decide) (rfl) (rfl) (Nat.le_of_ble_eq_true rfl) rfl ?_
    refine zr_sig (fun ks1 e_ks1 => ?_)
    have kh2 : ks1.1 r = .inr (4, [.ref d, .ref h, .int (nI a), .int (nI m), .int (nI (c + 1)), .int fl]) := by rw [e_ks1]; exact zup_at _ _ _
    have kh3 : ks1.1 d = .inl (0, 400, .inl f) := by rw [e_ks1, zup_ne _ _ (by omega)]; exact kd
    have kh4 : ks1.1 h = .inl (0, 400, .inl g) := by rw [e_ks1, zup_ne _ _ (by omega)]; exact h2
    have kF5 := zFr.put hF e_ks1 (by first | omega | simp)
    exact zr_return dX6_reduce_169 rfl (by have e1 : m = M := (by simpa [zSl] using hm); subst e1; exact ⟨rfl, g, kF5, kh2, kh4, hl⟩)
  | succ i ih =>
    intro s m g hi hm hF h0 h2 hl
    rw [show a + (i + 1) = a + 1 + i from by omega]
    have kd := zFr.get hF (by omega) h1
    rw [zsl_split, List.flatMap_append, List.flatMap_singleton, List.length_append] at hm
    rw [zsl_split, List.flatMap_append, List.flatMap_singleton, List.append_assoc] at hl
    refine zr_iload dX6_reduce_78 rfl ?_
    refine zr_iload_n dX6_reduce_80 rfl ?_
    refine zr_icmp_le (tgt := 164) dX6_reduce_81 (by decide) (fun c_81 => absurd c_81 (fun h => absurd ((nI_leI (a := a + 1 + i) (b := a) (by omega) (by omega)).mp h) (by omega))) (fun c_81 => ?_)
    refine zr_aload_n dX6_reduce_84 rfl ?_
    refine zr_getfield dX6_reduce_85 fX6_9 h0 rfl (by decide) ?_
    refine zr_iload dX6_reduce_88 rfl ?_
    refine zr_iaload dX6_reduce_90 kd (vp_in_nI (n := a + 1 + i) (by omega) (by omega)) ?_
    rw [nI_clamp (n := a + 1 + i) (by omega)]
    refine zr_pSi [] dX6_reduce_91 vX6_54 (qX9_indexOf hX s ((f (a + 1 + i)))) (by decide) (by decide) (by decide) rfl rfl (Nat.le_of_ble_eq_true rfl) rfl ?_
    refine zr_iload_n dX6_reduce_94 rfl ?_
    refine zr_iconst (v := 1) dX6_reduce_95 (by decide) ?_
    refine zr_iadd dX6_reduce_96 ?_
    refine zr_icmp_ne (tgt := 147) dX6_reduce_97 (by decide) (fun c_97 => ?_) (fun c_97 => ?_)
    · rw [zrp, if_neg c_97] at hm hl
      simp only [List.length_cons, List.length_nil] at hm
      refine zr_aload_n dX6_reduce_147 rfl ?_
      refine zr_aload_n dX6_reduce_148 rfl ?_
      refine zr_getfield dX6_reduce_149 fX6_9 h0 rfl (by decide) ?_
      refine zr_iload dX6_reduce_152 rfl ?_
      refine zr_iaload dX6_reduce_154 kd (vp_in_nI (n := a + 1 + i) (by omega) (by omega)) ?_
      rw [nI_clamp (n := a + 1 + i) (by omega)]
      refine zr_callVv [] dX6_reduce_155 vX6_50 (qX6_push hX (m := m) (f (a + 1 + i)) (by omega) h0 h2 (by omega)) h0 (by decide) (by decide) (by decide) rfl rfl (Nat.le_of_ble_eq_true rfl) (by decide) rfl (fun s_kr1 h_kr1 => ?_)
      obtain ⟨F_kr1, g0_kr1, g1_kr1⟩ := h_kr1
      have kh2 : s_kr1.1 d = .inl (0, 400, .inl f) := zFr.get F_kr1 (by omega) kd
      have kF3 := zFr.tr hF F_kr1 (by intro q hq; omega)
      refine zr_iinc (v := nI (a + 1 + i - 1)) (ls' := [some (.ref r), some (.int (nI a)), some (.int ((f a))), some (.int ((zix (f a)))), some (.int v3), some (.int (nI (a + 1 + i - 1)))]) dX6_reduce_158 rfl ((z_m1 _).trans (pk_sub (a := a + 1 + i) (b := 1) (by omega))) (by decide) rfl ?_
      refine zr_goto (tgt := 78) dX6_reduce_161 (by decide) ?_
      rw [show a + 1 + i - 1 = a + i from by omega]; exact ih _ _ _ (by omega) (by omega) (kF3) (g0_kr1) (g1_kr1) (by rw [← hl, zA_push]; rfl)
    · rw [zrp, if_pos c_97] at hm hl
      simp only [List.length_cons, List.length_nil] at hm
      refine zr_aload_n dX6_reduce_100 rfl ?_
      refine zr_iload_n dX6_reduce_101 rfl ?_
      refine zr_i2l dX6_reduce_102 ?_
      refine zr_pSi [.ref r] dX6_reduce_103 vX6_58 (qX9_signOf hX s (((f a)).toInt64)) (by decide) (by decide) (by decide) rfl rfl (Nat.le_of_ble_eq_true rfl) rfl ?_
      refine zr_iload_n dX6_reduce_106 rfl ?_
      refine zr_iconst (v := 1) dX6_reduce_107 (by decide) ?_
      refine zr_iadd dX6_reduce_108 ?_
      refine zr_imul dX6_reduce_109 ?_
      refine zr_callVv [] dX6_reduce_110 vX6_50 (qX6_push hX (m := m) ((zsg (((f a)).toInt64)) * ((zix (f a)) + 1)) (by omega) h0 h2 (by omega)) h0 (by decide) (by decide) (by decide) rfl rfl (Nat.le_of_ble_eq_true rfl) (by decide) rfl (fun s_kr4 h_kr4 => ?_)
      obtain ⟨F_kr4, g0_kr4, g1_kr4⟩ := h_kr4
      have kh5 : s_kr4.1 d = .inl (0, 400, .inl f) := zFr.get F_kr4 (by omega) kd
      have kF6 := zFr.tr hF F_kr4 (by intro q hq; omega)
      refine zr_aload_n dX6_reduce_113 rfl ?_
      refine zr_aload_n dX6_reduce_114 rfl ?_
      refine zr_getfield dX6_reduce_115 fX6_9 g0_kr4 rfl (by decide) ?_
      refine zr_iload dX6_reduce_118 rfl ?_
      refine zr_iaload dX6_reduce_120 kh5 (vp_in_nI (n := a + 1 + i) (by omega) (by omega)) ?_
      rw [nI_clamp (n := a + 1 + i) (by omega)]
      refine zr_i2l dX6_reduce_121 ?_
      refine zr_pSi [.ref r] dX6_reduce_122 vX6_58 (qX9_signOf hX s_kr4 (((f (a + 1 + i))).toInt64)) (by decide) (by decide) (by decide) rfl rfl (Nat.le_of_ble_eq_true rfl) rfl ?_
      refine zr_iload_n dX6_reduce_125 rfl ?_
      refine zr_imul dX6_reduce_126 ?_
      refine zr_callVv [] dX6_reduce_127 vX6_50 (qX6_push hX (m := m + 1) ((zsg (((f (a + 1 + i))).toInt64)) * (zix (f a))) (by omega) g0_kr4 g1_kr4 (by omega)) g0_kr4 (by decide) (by decide) (by decide) rfl rfl (Nat.le_of_ble_eq_true rfl) (by decide) rfl (fun s_kr7 h_kr7 => ?_)
      obtain ⟨F_kr7, g0_kr7, g1_kr7⟩ := h_kr7
      have kh8 : s_kr7.1 d = .inl (0, 400, .inl f) := zFr.get F_kr7 (by omega) kh5
      have kF9 := zFr.tr kF6 F_kr7 (by intro q hq; omega)
      refine zr_aload_n dX6_reduce_130 rfl ?_
      refine zr_iload_n dX6_reduce_131 rfl ?_
      refine zr_i2l dX6_reduce_132 ?_
      refine zr_pSi [.ref r] dX6_reduce_133 vX6_58 (qX9_signOf hX s_kr7 (((f a)).toInt64)) (by decide) (by decide) (by decide) rfl rfl (Nat.le_of_ble_eq_true rfl) rfl ?_
      refine zr_ineg dX6_reduce_136 ?_
      refine zr_iload_n dX6_reduce_137 rfl ?_
      refine zr_iconst (v := 1) dX6_reduce_138 (by decide) ?_
      refine zr_iadd dX6_reduce_139 ?_
      refine zr_imul dX6_reduce_140 ?_
      refine zr_callVv [] dX6_reduce_141 vX6_50 (qX6_push hX (m := m + 1 + 1) ((-(zsg (((f a)).toInt64))) * ((zix (f a)) + 1)) (by omega) g0_kr7 g1_kr7 (by omega)) g0_kr7 (by decide) (by decide) (by decide) rfl rfl (Nat.le_of_ble_eq_true rfl) (by decide) rfl (fun s_kr10 h_kr10 => ?_)
      obtain ⟨F_kr10, g0_kr10, g1_kr10⟩ := h_kr10
      have kh11 : s_kr10.1 d = .inl (0, 400, .inl f) := zFr.get F_kr10 (by omega) kh8
      have kF12 := zFr.tr kF9 F_kr10 (by intro q hq; omega)
      refine zr_goto (tgt := 158) dX6_reduce_144 (by decide) ?_
      refine zr_iinc (v := nI (a + 1 + i - 1)) (ls' := [some (.ref r), some (.int (nI a)), some (.int ((f a))), some (.int ((zix (f a)))), some (.int v3), some (.int (nI (a + 1 + i - 1)))]) dX6_reduce_158 rfl ((z_m1 _).trans (pk_sub (a := a + 1 + i) (b := 1) (by omega))) (by decide) rfl ?_
      refine zr_goto (tgt := 78) dX6_reduce_161 (by decide) ?_
      rw [show a + 1 + i - 1 = a + i from by omega]; exact ih _ _ _ (by omega) (by omega) (kF12) (g0_kr10) (g1_kr10) (by rw [← hl, zA_3]; rfl)

set_option maxHeartbeats 400000 in
set_option maxRecDepth 100000 in
theorem qX6_reduce {X : zX} (hX : X.1.stackTraces = false) {σ : zS} {r d h n m c : Nat} {f g : Nat → Int32} {fl : Int32} {a : Nat} (hrd : r ≠ d) (hrh : r ≠ h) (hdh : d ≠ h) (h0 : σ.1 r = .inr (4, [.ref d, .ref h, .int (nI n), .int (nI m), .int (nI c), .int fl])) (h1 : σ.1 d = .inl (0, 400, .inl f)) (h2 : σ.1 h = .inl (0, 400, .inl g)) (hn : n ≤ 400) (hm4 : m ≤ 400) (ha : a + 1 < n) (hx : zLt (f a)) (hc : c < 2000) (hl : (n + m - 2 + 2 * zct (zix (f a) + 1) (zSl f (a + 1) (n - 1 - (a + 1)))) ≤ 400) : zMet X mX6_reduce yX6_reduce 2 0 0 [.ref r, .int (nI a)] σ (zV (fun t => ∃ g1, zFr σ t (fun q => q = r ∨ q = h) ∧ t.1 r = .inr (4, [.ref d, .ref h, .int (nI a), .int (nI (((zSl f (a + 1) (n - 1 - (a + 1))).flatMap (zrp (f a))).length + m)), .int (nI (c + 1)), .int fl]) ∧ t.1 h = .inl (0, 400, .inl g1) ∧ zA_ g1 (((zSl f (a + 1) (n - 1 - (a + 1))).flatMap (zrp (f a))).length + m) = ((zSl f (a + 1) (n - 1 - (a + 1))).flatMap (zrp (f a))) ++ zA_ g m)) := by
  refine zMet_of (ls := [some (.ref r), some (.int (nI a)), none, none, none, none]) rfl (by decide +kernel) rfl (fun h => by cases h) hX (Nat.le_of_ble_eq_true rfl) rfl ?_
  have hb := zct_le (zix (f a) + 1) (zSl f (a + 1) (n - 1 - (a + 1)))
  rw [zSl_len] at hb
  refine zr_aload_n dX6_reduce_0 rfl ?_
  refine zr_getfield dX6_reduce_1 fX6_9 h0 rfl (by decide) ?_
  refine zr_iload_n dX6_reduce_4 rfl ?_
  refine zr_iaload dX6_reduce_5 h1 (vp_in_nI (n := a) (by omega) (by omega)) ?_
  rw [nI_clamp (n := a) (by omega)]
  refine zr_istore_n (ls' := [some (.ref r), some (.int (nI a)), some (.int ((f a))), none, none, none]) dX6_reduce_6 rfl (by decide) rfl ?_
  refine zr_iload_n dX6_reduce_7 rfl ?_
  refine zr_pSi [] dX6_reduce_8 vX6_54 (qX9_indexOf hX σ ((f a))) (by decide) (by decide) (by decide) rfl rfl (Nat.le_of_ble_eq_true rfl) rfl ?_
  refine zr_istore_n (ls' := [some (.ref r), some (.int (nI a)), some (.int ((f a))), some (.int ((zix (f a)))), none, none]) dX6_reduce_11 rfl (by decide) rfl ?_
  refine zr_aload_n dX6_reduce_12 rfl ?_
  refine zr_getfield dX6_reduce_13 fX6_18 h0 rfl (by decide) ?_
  refine zr_aload_n dX6_reduce_16 rfl ?_
  refine zr_getfield dX6_reduce_17 fX6_22 h0 rfl (by decide) ?_
  refine zr_iadd dX6_reduce_20 ?_
  refine zr_eqi (x' := nI (n + m)) (nI_add n m) ?_
  refine zr_iconst (v := 2) dX6_reduce_21 (by decide) ?_
  refine zr_isub dX6_reduce_22 ?_
  refine zr_eqi (x' := nI ((n + m) - 2)) (pk_sub (a := (n + m)) (b := 2) (by omega)) ?_
  refine zr_iconst (v := 2) dX6_reduce_23 (by decide) ?_
  refine zr_aload_n dX6_reduce_24 rfl ?_
  refine zr_iload_n dX6_reduce_25 rfl ?_
  refine zr_iload_n dX6_reduce_26 rfl ?_
  refine zr_iconst (v := 1) dX6_reduce_27 (by decide) ?_
  refine zr_iadd dX6_reduce_28 ?_
  refine zr_pVi [.int 2, .int (nI ((n + m) - 2))] dX6_reduce_29 vX6_73 (qX6_countInside hX (a := a) (v := ((zix (f a)) + 1)) (n := n) h0 h1 (by omega) (by omega)) h0 (by decide) (by decide) (by decide) rfl rfl (Nat.le_of_ble_eq_true rfl) (by decide) rfl ?_
  refine zr_imul dX6_reduce_32 ?_
  refine zr_eqi (x' := nI (2 * (zct ((zix (f a)) + 1) (zSl f (a + 1) (n - 1 - (a + 1)))))) (pk_mul 2 (zct ((zix (f a)) + 1) (zSl f (a + 1) (n - 1 - (a + 1))))) ?_
  refine zr_iadd dX6_reduce_33 ?_
  refine zr_eqi (x' := nI (((n + m) - 2) + (2 * (zct ((zix (f a)) + 1) (zSl f (a + 1) (n - 1 - (a + 1))))))) (nI_add ((n + m) - 2) (2 * (zct ((zix (f a)) + 1) (zSl f (a + 1) (n - 1 - (a + 1)))))) ?_
  refine zr_istore (ls' := [some (.ref r), some (.int (nI a)), some (.int ((f a))), some (.int ((zix (f a)))), some (.int (nI (((n + m) - 2) + (2 * (zct ((zix (f a)) + 1) (zSl f (a + 1) (n - 1 - (a + 1)))))))), none]) dX6_reduce_34 (by decide) rfl ?_
  refine zr_aload_n dX6_reduce_36 rfl ?_
  refine zr_getfield dX6_reduce_37 fX6_25 h0 rfl (by decide) ?_
  refine zr_sipush (v := 2000) dX6_reduce_40 (by decide) ?_
  refine zr_icmp_ge (tgt := 54) dX6_reduce_43 (by decide) (fun c_43 => absurd c_43 (fun h => absurd ((nI_leI (a := 2000) (b := c) (by omega) (by omega)).mp h) (by omega))) (fun c_43 => ?_)
  refine zr_iload dX6_reduce_46 rfl ?_
  refine zr_sipush (v := 400) dX6_reduce_48 (by decide) ?_
  refine zr_icmp_le (tgt := 60) dX6_reduce_51 (by decide) (fun c_51 => ?_) (fun c_51 => absurd ((nI_leI (a := ((n + m) - 2) + (2 * (zct ((zix (f a)) + 1) (zSl f (a + 1) (n - 1 - (a + 1)))))) (b := 400) (by omega) (by omega)).mpr (by omega)) c_51)
  refine zr_aload_n dX6_reduce_60 rfl ?_
  refine zr_dup dX6_reduce_61 rfl ?_
  refine zr_getfield dX6_reduce_62 fX6_25 h0 rfl (by decide) ?_
  refine zr_iconst (v := 1) dX6_reduce_65 (by decide) ?_
  refine zr_iadd dX6_reduce_66 ?_
  refine zr_eqi (x' := nI (c + 1)) (nI_add c 1) ?_
  refine zr_putfield (fs' := [.ref d, .ref h, .int (nI n), .int (nI m), .int (nI (c + 1)), .int fl]) dX6_reduce_67 pX6_25 h0 (by decide) (rfl) (rfl) (Nat.le_of_ble_eq_true rfl) rfl ?_
  refine zr_sig (fun ks1 e_ks1 => ?_)
  have kh2 : ks1.1 r = .inr (4, [.ref d, .ref h, .int (nI n), .int (nI m), .int (nI (c + 1)), .int fl]) := by rw [e_ks1]; exact zup_at _ _ _
  have kh3 : ks1.1 d = .inl (0, 400, .inl f) := by rw [e_ks1, zup_ne _ _ (by omega)]; exact h1
  have kh4 : ks1.1 h = .inl (0, 400, .inl g) := by rw [e_ks1, zup_ne _ _ (by omega)]; exact h2
  have kF5 := zFr.put zFr.rf (P := fun q => q = r ∨ q = h) e_ks1 (by first | omega | simp)
  refine zr_aload_n dX6_reduce_70 rfl ?_
  refine zr_getfield dX6_reduce_71 fX6_18 kh2 rfl (by decide) ?_
  refine zr_iconst (v := 2) dX6_reduce_74 (by decide) ?_
  refine zr_isub dX6_reduce_75 ?_
  refine zr_eqi (x' := nI (a + (n - 1 - (a + 1)))) ((pk_sub (a := n) (b := 2) (by omega)).trans (congrArg nI (by omega))) ?_
  refine zr_istore (ls' := [some (.ref r), some (.int (nI a)), some (.int ((f a))), some (.int ((zix (f a)))), some (.int (nI (((n + m) - 2) + (2 * (zct ((zix (f a)) + 1) (zSl f (a + 1) (n - 1 - (a + 1)))))))), some (.int (nI (a + (n - 1 - (a + 1)))))]) dX6_reduce_76 (by decide) rfl ?_
  exact l_reduce hX hrd hrh hdh (by have := zfl_len hx (zSl f (a + 1) (n - 1 - (a + 1))); rw [zSl_len] at this; omega) hn ha h1 (n - 1 - (a + 1)) _ m g (by omega) rfl kF5 kh2 kh4 rfl

set_option maxHeartbeats 400000 in
set_option maxRecDepth 100000 in
theorem qX6_reduceF {X : zX} (hX : X.1.stackTraces = false) {σ : zS} {r d h n m c : Nat} {f g : Nat → Int32} {fl : Int32} {a : Nat} (hrd : r ≠ d) (hrh : r ≠ h) (hdh : d ≠ h) (h0 : σ.1 r = .inr (4, [.ref d, .ref h, .int (nI n), .int (nI m), .int (nI c), .int fl])) (h1 : σ.1 d = .inl (0, 400, .inl f)) (h2 : σ.1 h = .inl (0, 400, .inl g)) (hn : n ≤ 400) (hm4 : m ≤ 400) (ha : a + 1 < n) (hc : c ≤ 2000) (hq : 2000 ≤ c ∨ 400 < (n + m - 2 + 2 * zct (zix (f a) + 1) (zSl f (a + 1) (n - 1 - (a + 1))))) : zMet X mX6_reduce yX6_reduce 2 0 0 [.ref r, .int (nI a)] σ (zV (fun t => zFr σ t (fun q => q = r) ∧ t.1 r = .inr (4, [.ref d, .ref h, .int (nI n), .int (nI m), .int (nI c), .int 1]))) := by
  refine zMet_of (ls := [some (.ref r), some (.int (nI a)), none, none, none, none]) rfl (by decide +kernel) rfl (fun h => by cases h) hX (Nat.le_of_ble_eq_true rfl) rfl ?_
  have hb := zct_le (zix (f a) + 1) (zSl f (a + 1) (n - 1 - (a + 1)))
  rw [zSl_len] at hb
  refine zr_aload_n dX6_reduce_0 rfl ?_
  refine zr_getfield dX6_reduce_1 fX6_9 h0 rfl (by decide) ?_
  refine zr_iload_n dX6_reduce_4 rfl ?_
  refine zr_iaload dX6_reduce_5 h1 (vp_in_nI (n := a) (by omega) (by omega)) ?_
  rw [nI_clamp (n := a) (by omega)]
  refine zr_istore_n (ls' := [some (.ref r), some (.int (nI a)), some (.int ((f a))), none, none, none]) dX6_reduce_6 rfl (by decide) rfl ?_
  refine zr_iload_n dX6_reduce_7 rfl ?_
  refine zr_pSi [] dX6_reduce_8 vX6_54 (qX9_indexOf hX σ ((f a))) (by decide) (by decide) (by decide) rfl rfl (Nat.le_of_ble_eq_true rfl) rfl ?_
  refine zr_istore_n (ls' := [some (.ref r), some (.int (nI a)), some (.int ((f a))), some (.int ((zix (f a)))), none, none]) dX6_reduce_11 rfl (by decide) rfl ?_
  refine zr_aload_n dX6_reduce_12 rfl ?_
  refine zr_getfield dX6_reduce_13 fX6_18 h0 rfl (by decide) ?_
  refine zr_aload_n dX6_reduce_16 rfl ?_
  refine zr_getfield dX6_reduce_17 fX6_22 h0 rfl (by decide) ?_
  refine zr_iadd dX6_reduce_20 ?_
  refine zr_eqi (x' := nI (n + m)) (nI_add n m) ?_
  refine zr_iconst (v := 2) dX6_reduce_21 (by decide) ?_
  refine zr_isub dX6_reduce_22 ?_
  refine zr_eqi (x' := nI ((n + m) - 2)) (pk_sub (a := (n + m)) (b := 2) (by omega)) ?_
  refine zr_iconst (v := 2) dX6_reduce_23 (by decide) ?_
  refine zr_aload_n dX6_reduce_24 rfl ?_
  refine zr_iload_n dX6_reduce_25 rfl ?_
  refine zr_iload_n dX6_reduce_26 rfl ?_
  refine zr_iconst (v := 1) dX6_reduce_27 (by decide) ?_
  refine zr_iadd dX6_reduce_28 ?_
  refine zr_pVi [.int 2, .int (nI ((n + m) - 2))] dX6_reduce_29 vX6_73 (qX6_countInside hX (a := a) (v := ((zix (f a)) + 1)) (n := n) h0 h1 (by omega) (by omega)) h0 (by decide) (by decide) (by decide) rfl rfl (Nat.le_of_ble_eq_true rfl) (by decide) rfl ?_
  refine zr_imul dX6_reduce_32 ?_
  refine zr_eqi (x' := nI (2 * (zct ((zix (f a)) + 1) (zSl f (a + 1) (n - 1 - (a + 1)))))) (pk_mul 2 (zct ((zix (f a)) + 1) (zSl f (a + 1) (n - 1 - (a + 1))))) ?_
  refine zr_iadd dX6_reduce_33 ?_
  refine zr_eqi (x' := nI (((n + m) - 2) + (2 * (zct ((zix (f a)) + 1) (zSl f (a + 1) (n - 1 - (a + 1))))))) (nI_add ((n + m) - 2) (2 * (zct ((zix (f a)) + 1) (zSl f (a + 1) (n - 1 - (a + 1)))))) ?_
  refine zr_istore (ls' := [some (.ref r), some (.int (nI a)), some (.int ((f a))), some (.int ((zix (f a)))), some (.int (nI (((n + m) - 2) + (2 * (zct ((zix (f a)) + 1) (zSl f (a + 1) (n - 1 - (a + 1)))))))), none]) dX6_reduce_34 (by decide) rfl ?_
  refine zr_aload_n dX6_reduce_36 rfl ?_
  refine zr_getfield dX6_reduce_37 fX6_25 h0 rfl (by decide) ?_
  refine zr_sipush (v := 2000) dX6_reduce_40 (by decide) ?_
  refine zr_icmp_ge (tgt := 54) dX6_reduce_43 (by decide) (fun c_43 => ?_) (fun c_43 => ?_)
  · refine zr_aload_n dX6_reduce_54 rfl ?_
    refine zr_iconst (v := 1) dX6_reduce_55 (by decide) ?_
    refine zr_putfield (fs' := [.ref d, .ref h, .int (nI n), .int (nI m), .int (nI c), .int 1]) dX6_reduce_56 pX6_28 h0 (by decide) (rfl) (rfl) (Nat.le_of_ble_eq_true rfl) rfl ?_
    refine zr_sig (fun ks1 e_ks1 => ?_)
    have kh2 : ks1.1 r = .inr (4, [.ref d, .ref h, .int (nI n), .int (nI m), .int (nI c), .int 1]) := by rw [e_ks1]; exact zup_at _ _ _
    have kh3 : ks1.1 d = .inl (0, 400, .inl f) := by rw [e_ks1, zup_ne _ _ (by omega)]; exact h1
    have kh4 : ks1.1 h = .inl (0, 400, .inl g) := by rw [e_ks1, zup_ne _ _ (by omega)]; exact h2
    have kF5 := zFr.put zFr.rf (P := fun q => q = r) e_ks1 (by first | omega | simp)
    exact zr_return dX6_reduce_59 rfl (⟨rfl, kF5, kh2⟩)
  · refine zr_iload dX6_reduce_46 rfl ?_
    refine zr_sipush (v := 400) dX6_reduce_48 (by decide) ?_
    refine zr_icmp_le (tgt := 60) dX6_reduce_51 (by decide) (fun c_51 => ?_) (fun c_51 => ?_)
    · exact (hq.elim (fun q => c_43 ((nI_leI (a := 2000) (b := c) (by omega) (by omega)).mpr q)) (fun q => absurd ((nI_leI (a := n + m - 2 + 2 * zct (zix (f a) + 1) (zSl f (a + 1) (n - 1 - (a + 1)))) (b := 400) (by omega) (by omega)).mp c_51) (by omega))).elim
    · refine zr_aload_n dX6_reduce_54 rfl ?_
      refine zr_iconst (v := 1) dX6_reduce_55 (by decide) ?_
      refine zr_putfield (fs' := [.ref d, .ref h, .int (nI n), .int (nI m), .int (nI c), .int 1]) dX6_reduce_56 pX6_28 h0 (by decide) (rfl) (rfl) (Nat.le_of_ble_eq_true rfl) rfl ?_
      refine zr_sig (fun ks6 e_ks6 => ?_)
      have kh7 : ks6.1 r = .inr (4, [.ref d, .ref h, .int (nI n), .int (nI m), .int (nI c), .int 1]) := by rw [e_ks6]; exact zup_at _ _ _
      have kh8 : ks6.1 d = .inl (0, 400, .inl f) := by rw [e_ks6, zup_ne _ _ (by omega)]; exact h1
      have kh9 : ks6.1 h = .inl (0, 400, .inl g) := by rw [e_ks6, zup_ne _ _ (by omega)]; exact h2
      have kF10 := zFr.put zFr.rf (P := fun q => q = r) e_ks6 (by first | omega | simp)
      exact zr_return dX6_reduce_59 rfl (⟨rfl, kF10, kh7⟩)

theorem zSl_congr {f g : Nat → Int32} {i : Nat} : ∀ {n : Nat}, (∀ k, i ≤ k → k < i + n → f k = g k) → zSl f i n = zSl g i n
  | 0, _ => rfl
  | n + 1, h => by simp only [zSl]; rw [zSl_congr (n := n) (fun k h1 hk => h k h1 (by omega)), h (i + n) (by omega) (by omega)]
theorem zP_mem (f : Nat → Int32) : ∀ {n a : Nat}, a < n → f a ∈ zP f n
  | 0, a, h => absurd h (Nat.not_lt_zero a)
  | n + 1, a, h => by
    simp only [zP]
    by_cases e : a = n
    · subst e; exact List.mem_append_right _ (List.mem_singleton.mpr rfl)
    · exact List.mem_append_left _ (zP_mem f (by omega))
theorem zrp_lt {x y : Int32} (hx : zLt x) (hy : zLt y) : ∀ z ∈ zrp x y, zLt z := by
  rcases hx with rfl | rfl | rfl | rfl | rfl | rfl | rfl | rfl <;> rcases hy with rfl | rfl | rfl | rfl | rfl | rfl | rfl | rfl <;> (unfold zLt; decide +kernel)
theorem zinn_lt {P : List Int32} {a : Nat} (h : ∀ y ∈ P, zLt y) (ha : a < P.length) : ∀ y ∈ zinn P a, zLt y := by
  intro y hy
  unfold zinn at hy
  obtain ⟨z, h1, h2⟩ := List.mem_flatMap.mp hy
  refine zrp_lt (h _ ?_) (h z (List.mem_of_mem_drop h1)) y h2
  rw [List.getD_eq_getElem?_getD, List.getElem?_eq_getElem ha]
  exact List.getElem_mem ha
theorem zRn_nil (r : Nat) (P : List Int32) : zRn r P [] = some (r, P) := by cases r <;> rfl
theorem zRn_take {r : Nat} {P Q : List Int32} {x : Int32} (h : zha P x = -1) : zRn r P (x :: Q) = zRn r (P ++ [x]) Q := by
  cases r <;> (simp only [zRn, zTk]; rw [if_pos h])
theorem nI_ne (a : Nat) (h : a < 2 ^ 31) : ¬ nI a = -1 := by
  intro q
  exact nI_pos h (q ▸ (by decide))
theorem zRn_0 {P Q : List Int32} {x : Int32} (h : ¬ zha P x = -1) : zRn 0 P (x :: Q) = none := by
  simp only [zRn, zTk]; rw [if_neg h]
theorem zRn_s {r a : Nat} {P Q : List Int32} {x : Int32} (h : zha P x = nI a) (ha : a < P.length) (hP : P.length < 2 ^ 31) : zRn (r + 1) P (x :: Q) = if 400 < a + ((zinn P a).length + Q.length) then none else zRn r (P.take a) (zinn P a ++ Q) := by
  simp only [zRn, zTk]
  rw [if_neg (by rw [h]; exact nI_ne a (by omega)), h, nI_clamp (by omega), List.length_append, List.length_take, Nat.min_eq_left (by omega)]
theorem zha_at {P : List Int32} {x : Int32} (h : ¬ zha P x = -1) : ∃ a, a < P.length ∧ zha P x = nI a := by
  rcases zbh_cases (wv P) (zix x) x P.length with h1 | ⟨a, h1, h2, -⟩
  · exact absurd h1 h
  · exact ⟨a, h1, h2⟩
theorem zhb_upd (f : Nat → Int32) (n : Nat) (x : Int32) : zhb (upd f n x) n = zha (zP f n) x := by
  unfold zhb; rw [upd_at, zha_P]; exact zbh_congr _ _ (fun k hk => upd_ne f x (by omega))
theorem zA_pos {g : Nat → Int32} {m : Nat} (h : 0 < m) : zA_ g m = g (m - 1) :: zA_ g (m - 1) := by
  obtain ⟨k, rfl⟩ : ∃ k, m = k + 1 := ⟨m - 1, by omega⟩
  rfl
/-- what a relaxation leaves -/
def zRd (r d h : Nat) (O : Option (Nat × List Int32)) (s : zS) : Prop := ∃ (f g : Nat → Int32) (n m c : Nat) (fl : Int32), s.1 r = .inr (4, [.ref d, .ref h, .int (nI n), .int (nI m), .int (nI c), .int fl]) ∧ s.1 d = .inl (0, 400, .inl f) ∧ s.1 h = .inl (0, 400, .inl g) ∧ (match O with | none => fl = 1 | some q => fl = 0 ∧ zP f n = q.2 ∧ n ≤ 400 ∧ c + q.1 = 2000)
theorem qR_ok {X : zX} (hX : X.1.stackTraces = false) {σ : zS} {r d h k m c a : Nat} {f g : Nat → Int32} {fl : Int32} (hrd : r ≠ d) (hrh : r ≠ h) (hdh : d ≠ h) (h0 : σ.1 r = .inr (4, [.ref d, .ref h, .int (nI (k + 1)), .int (nI m), .int (nI c), .int fl])) (h1 : σ.1 d = .inl (0, 400, .inl f)) (h2 : σ.1 h = .inl (0, 400, .inl g)) (hn : k + 1 ≤ 400) (hm4 : m ≤ 400) (ha : a < k) (hx : zLt (f a)) (hc : c < 2000) (hl : a + ((zinn (zP f k) a).length + m) ≤ 400) : zMet X mX6_reduce yX6_reduce 2 0 0 [.ref r, .int (nI a)] σ (zV (fun t => ∃ g1, zFr σ t (fun q => q = r ∨ q = h) ∧ t.1 r = .inr (4, [.ref d, .ref h, .int (nI a), .int (nI ((zinn (zP f k) a).length + m)), .int (nI (c + 1)), .int fl]) ∧ t.1 h = .inl (0, 400, .inl g1) ∧ zA_ g1 ((zinn (zP f k) a).length + m) = zinn (zP f k) a ++ zA_ g m)) := by
  have e := zinn_P (f := f) ha
  have e2 : k + 1 - 1 - (a + 1) = k - (a + 1) := by omega
  have hl2 := zfl_len hx (zSl f (a + 1) (k - (a + 1)))
  rw [zSl_len] at hl2
  rw [e] at hl ⊢
  have q := qX6_reduce hX (n := k + 1) (a := a) hrd hrh hdh h0 h1 h2 hn hm4 (by omega) hx hc
  rw [e2] at q
  exact q (by omega)
theorem qR_no {X : zX} (hX : X.1.stackTraces = false) {σ : zS} {r d h k m c a : Nat} {f g : Nat → Int32} {fl : Int32} (hrd : r ≠ d) (hrh : r ≠ h) (hdh : d ≠ h) (h0 : σ.1 r = .inr (4, [.ref d, .ref h, .int (nI (k + 1)), .int (nI m), .int (nI c), .int fl])) (h1 : σ.1 d = .inl (0, 400, .inl f)) (h2 : σ.1 h = .inl (0, 400, .inl g)) (hn : k + 1 ≤ 400) (hm4 : m ≤ 400) (ha : a < k) (hx : zLt (f a)) (hc : c ≤ 2000) (hl : 2000 ≤ c ∨ 400 < a + ((zinn (zP f k) a).length + m)) : zMet X mX6_reduce yX6_reduce 2 0 0 [.ref r, .int (nI a)] σ (zV (fun t => zFr σ t (fun q => q = r) ∧ t.1 r = .inr (4, [.ref d, .ref h, .int (nI (k + 1)), .int (nI m), .int (nI c), .int 1]))) := by
  have e := zinn_P (f := f) ha
  have e2 : k + 1 - 1 - (a + 1) = k - (a + 1) := by omega
  have hl2 := zfl_len hx (zSl f (a + 1) (k - (a + 1)))
  rw [zSl_len] at hl2
  rw [e] at hl
  have q := qX6_reduceF hX (n := k + 1) (a := a) hrd hrh hdh h0 h1 h2 hn hm4 (by omega) hc
  rw [e2] at q
  exact q (by omega)

