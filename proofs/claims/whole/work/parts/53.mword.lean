/-! the word that is worked on -/
def zWk (y : Nat) (L : List Int32) (s : zS) : Prop := ∃ wk : Nat → Int32, s.1 (y + 7) = .inl (0, 1300, .inl wk) ∧ zP wk L.length = L
theorem zWk.fr {y : Nat} {L : List Int32} {σ s : zS} {P : Nat → Prop} (h : zWk y L σ) (F : zFr σ s P) (hp : ∀ q, y + 7 ≤ q → q < y + 8 → ¬ P q) : zWk y L s := by
  obtain ⟨wk, h1, h2⟩ := h
  exact ⟨wk, F.get (hp _ (by omega) (by omega)) h1, h2⟩
theorem zP_cpn (f t : Nat → Int32) (M : Nat) : ∀ n, zP (zcpn f t 0 M n) (M + n) = zP t M ++ zP f n
  | 0 => by rw [zcpn_0]; exact (List.append_nil _).symm
  | n + 1 => by
    rw [← zcpn_s, show M + (n + 1) = (M + n) + 1 from rfl, zP_push, zP_cpn f t M n, List.append_assoc]
    rw [show f (0 + n) = f n from congrArg f (Nat.zero_add n)]
    rfl
set_option maxHeartbeats 400000 in
set_option maxRecDepth 100000 in
theorem l_adds {X : zX} (hX : X.1.stackTraces = false) {σ : zS} {y : Nat} {F : Nat → Int32} {M n w : Nat} {g wk : Nat → Int32} (h0 : σ.1 y = zmO y F) (h1 : σ.1 (y + 1) = .inl (0, 82, .inl g)) (h2 : σ.1 (y + 7) = .inl (0, 1300, .inl wk)) (hn : g w = nI n) (hn16 : n ≤ 16) (hw : w + 5 ≤ 82) (hM : M + n ≤ 1300) : ∀ (j i : Nat) (s : zS), i + j = n → (zFr σ s (fun q => q = y ∨ q = y + 7)) → (s.1 y = zmO y (upd F 19 (nI (M + i)))) → (s.1 (y + 7) = .inl (0, 1300, .inl (zcpn (zdl g w) wk 0 M i))) → zW X mX10_adds 1 0 0 (zV (fun s => zFr σ s (fun q => q = y ∨ q = y + 7) ∧ s.1 y = zmO y (upd F 19 (nI (M + n))) ∧ s.1 (y + 7) = .inl (0, 1300, .inl (zcpn (zdl g w) wk 0 M n)))) 2 [some (.ref y), some (.int (nI w)), some (.int (nI i))] [] s := by
  intro j
  induction j with
  | zero =>
    intro i s hi hFr k0 k2
    have k1 := zFr.get hFr (by omega) h1
    refine zr_iload_n dX10_adds_2 rfl ?_
    refine zr_aload_n dX10_adds_3 rfl ?_
    refine zr_getM (v := .ref (y + 1)) dX10_adds_4 fX10_7 k0 rfl ?_
    refine zr_iload_n dX10_adds_7 rfl ?_
    refine zr_iconst (v := 0) dX10_adds_8 (by decide) ?_
    refine zr_iadd dX10_adds_9 ?_
    refine zr_eqi (x' := nI (w + 0)) (nI_add w 0) ?_
    refine zr_iaload dX10_adds_10 k1 (vp_in_nI (n := w + 0) (by omega) (by omega)) ?_
    rw [nI_clamp (n := w + 0) (by omega)]
    refine zr_eqi (x' := nI n) (hn) ?_
    refine zr_icmp_ge (tgt := 45) dX10_adds_11 (by decide) (fun c_11 => ?_) (fun c_11 => absurd ((nI_leI (a := n) (b := i) (by omega) (by omega)).mpr (by omega)) c_11)
    exact zr_return dX10_adds_45 rfl (by have e1 : i = n := (by omega); subst e1; exact ⟨rfl, hFr, k0, k2⟩)
  | succ j ih =>
    intro i s hi hFr k0 k2
    have k1 := zFr.get hFr (by omega) h1
    refine zr_iload_n dX10_adds_2 rfl ?_
    refine zr_aload_n dX10_adds_3 rfl ?_
    refine zr_getM (v := .ref (y + 1)) dX10_adds_4 fX10_7 k0 rfl ?_
    refine zr_iload_n dX10_adds_7 rfl ?_
    refine zr_iconst (v := 0) dX10_adds_8 (by decide) ?_
    refine zr_iadd dX10_adds_9 ?_
    refine zr_eqi (x' := nI (w + 0)) (nI_add w 0) ?_
    refine zr_iaload dX10_adds_10 k1 (vp_in_nI (n := w + 0) (by omega) (by omega)) ?_
    rw [nI_clamp (n := w + 0) (by omega)]
    refine zr_eqi (x' := nI n) (hn) ?_
    refine zr_icmp_ge (tgt := 45) dX10_adds_11 (by decide) (fun c_11 => absurd c_11 (fun h => absurd ((nI_leI (a := n) (b := i) (by omega) (by omega)).mp h) (by omega))) (fun c_11 => ?_)
    refine zr_aload_n dX10_adds_14 rfl ?_
    refine zr_getM (v := .ref (y + 7)) dX10_adds_15 fX10_33 k0 rfl ?_
    refine zr_aload_n dX10_adds_18 rfl ?_
    refine zr_getM (v := .int (nI (M + i))) dX10_adds_19 fX10_79 k0 rfl ?_
    refine zr_aload_n dX10_adds_22 rfl ?_
    refine zr_iload_n dX10_adds_23 rfl ?_
    refine zr_iload_n dX10_adds_24 rfl ?_
    refine zr_pVi [.int (nI (M + i)), .ref ((y + 7))] dX10_adds_25 vX10_86 (qX10_letter hX (w := w) (k := i) k0 k1 (by omega) (by omega)) k0 (by decide) (by decide) (by decide) rfl rfl (Nat.le_of_ble_eq_true rfl) (by decide) rfl ?_
    refine zr_iastore dX10_adds_28 k2 (vp_in_nI (n := M + i) (by omega) (by omega)) ?_
    rw [nI_clamp (n := M + i) (by omega)]
    refine zr_sig (fun ks1 e_ks1 => ?_)
    have kh2 : ks1.1 y = zmO y (upd F 19 (nI (M + i))) := by rw [e_ks1, zup_ne _ _ (by omega)]; exact k0
    have kh3 : ks1.1 (y + 1) = .inl (0, 82, .inl g) := by rw [e_ks1, zup_ne _ _ (by omega)]; exact k1
    have kh4 : ks1.1 (y + 7) = .inl (0, 1300, .inl (upd (zcpn (zdl g w) wk 0 M i) (M + i) (zdl g w i))) := by rw [e_ks1]; exact zup_at _ _ _
    have kF5 := zFr.put hFr e_ks1 (by first | omega | simp)
    refine zr_aload_n dX10_adds_29 rfl ?_
    refine zr_dup dX10_adds_30 rfl ?_
    refine zr_getM (v := .int (nI (M + i))) dX10_adds_31 fX10_79 kh2 rfl ?_
    refine zr_iconst (v := 1) dX10_adds_34 (by decide) ?_
    refine zr_iadd dX10_adds_35 ?_
    refine zr_eqi (x' := nI ((M + i) + 1)) (nI_add (M + i) 1) ?_
    refine zr_putM (v := nI ((M + i) + 1)) dX10_adds_36 pX10_79 kh2 (rfl) (rfl) (Nat.le_of_ble_eq_true rfl) (zms_19 _ _ _) ?_
    refine zr_sig (fun ks6 e_ks6 => ?_)
    have kh7 : ks6.1 y = zmO y (upd F 19 (nI ((M + i) + 1))) := by rw [e_ks6]; exact zup_at _ _ _
    have kh8 : ks6.1 (y + 1) = .inl (0, 82, .inl g) := by rw [e_ks6, zup_ne _ _ (by omega)]; exact kh3
    have kh9 : ks6.1 (y + 7) = .inl (0, 1300, .inl (upd (zcpn (zdl g w) wk 0 M i) (M + i) (zdl g w i))) := by rw [e_ks6, zup_ne _ _ (by omega)]; exact kh4
    have kF10 := zFr.put kF5 e_ks6 (by first | omega | simp)
    refine zr_iinc (v := nI (i + 1)) (ls' := [some (.ref y), some (.int (nI w)), some (.int (nI (i + 1)))]) dX10_adds_39 rfl (nI_1 _) (by decide) rfl ?_
    refine zr_goto (tgt := 2) dX10_adds_42 (by decide) ?_
    exact ih (i + 1) _ (by omega) (kF10) (kh7) (by rw [← zcpn_s, Nat.zero_add]; exact kh9)

set_option maxHeartbeats 400000 in
set_option maxRecDepth 100000 in
theorem qX10_adds {X : zX} (hX : X.1.stackTraces = false) {σ : zS} {y : Nat} {F : Nat → Int32} {M n w : Nat} {g wk : Nat → Int32} (h0 : σ.1 y = zmO y F) (h1 : σ.1 (y + 1) = .inl (0, 82, .inl g)) (h2 : σ.1 (y + 7) = .inl (0, 1300, .inl wk)) (hn : g w = nI n) (hn16 : n ≤ 16) (hw : w + 5 ≤ 82) (hM : M + n ≤ 1300) (hM19 : F 19 = nI M) : zMet X mX10_adds yX10_adds 1 0 0 [.ref y, .int (nI w)] σ (zV (fun s => zFr σ s (fun q => q = y ∨ q = y + 7) ∧ s.1 y = zmO y (upd F 19 (nI (M + n))) ∧ s.1 (y + 7) = .inl (0, 1300, .inl (zcpn (zdl g w) wk 0 M n)))) := by
  refine zMet_of (ls := [some (.ref y), some (.int (nI w)), none]) rfl (by decide +kernel) rfl (fun h => by cases h) hX (Nat.le_of_ble_eq_true rfl) rfl ?_
  refine zr_iconst (v := 0) dX10_adds_0 (by decide) ?_
  refine zr_istore_n (ls' := [some (.ref y), some (.int (nI w)), some (.int 0)]) dX10_adds_1 rfl (by decide) rfl ?_
  exact l_adds hX h0 h1 h2 hn hn16 hw hM n 0 _ (by omega) zFr.rf (by rw [h0]; exact zmO_cg (fun k _ => by simp only [upd]; split; (rename_i e; rw [e]; exact hM19); rfl)) (by rw [zcpn_0]; exact h2)

theorem qM_adds {X : zX} (hX : X.1.stackTraces = false) {σ : zS} {y : Nat} {F : Nat → Int32} {n w : Nat} {g : Nat → Int32} {L : List Int32} (h0 : σ.1 y = zmO y F) (h1 : σ.1 (y + 1) = .inl (0, 82, .inl g)) (hF : F 19 = nI L.length) (hL : zWk y L σ) (hn : g w = nI n) (hn16 : n ≤ 16) (hw : w + 5 ≤ 82) (hM : L.length + n ≤ 1300) : zMet X mX10_adds yX10_adds 1 0 0 [.ref y, .int (nI w)] σ (zV (fun s => zFr σ s (fun q => q = y ∨ q = y + 7) ∧ s.1 y = zmO y (upd F 19 (nI (L.length + n))) ∧ zWk y (L ++ zP (zdl g w) n) s)) := by
  obtain ⟨wk, k1, k2⟩ := hL
  refine (qX10_adds hX h0 h1 k1 hn hn16 hw hM hF).mono (fun o s q => ?_)
  obtain ⟨e, F1, q0, q1⟩ := q
  refine ⟨e, F1, q0, _, q1, ?_⟩
  rw [List.length_append, zP_len, zP_cpn, k2]
theorem zWk.nil {y : Nat} {L : List Int32} {s : zS} (h : zWk y L s) : zWk y [] s := by
  obtain ⟨wk, h1, -⟩ := h
  exact ⟨wk, h1, rfl⟩
set_option maxHeartbeats 400000 in
set_option maxRecDepth 100000 in
theorem qX10_takes {X : zX} (hX : X.1.stackTraces = false) {σ : zS} {y : Nat} {F : Nat → Int32} {n w : Nat} {g : Nat → Int32} {L : List Int32} (h0 : σ.1 y = zmO y F) (h1 : σ.1 (y + 1) = .inl (0, 82, .inl g)) (hL : zWk y L σ) (hn : g w = nI n) (hn16 : n ≤ 16) (hw : w + 5 ≤ 82) : zMet X mX10_takes yX10_takes 2 0 0 [.ref y, .int (nI w)] σ (zV (fun s => zFr σ s (fun q => q = y ∨ q = y + 7) ∧ s.1 y = zmO y (upd F 19 (nI n)) ∧ zWk y (zP (zdl g w) n) s)) := by
  refine zMet_of (ls := [some (.ref y), some (.int (nI w))]) rfl (by decide +kernel) rfl (fun h => by cases h) hX (Nat.le_of_ble_eq_true rfl) rfl ?_
  refine zr_aload_n dX10_takes_0 rfl ?_
  refine zr_iconst (v := 0) dX10_takes_1 (by decide) ?_
  refine zr_putM (v := 0) dX10_takes_2 pX10_79 h0 (rfl) (rfl) (Nat.le_of_ble_eq_true rfl) (zms_19 _ _ _) ?_
  refine zr_sig (fun ks1 e_ks1 => ?_)
  have kh2 : ks1.1 y = zmO y (upd F 19 0) := by rw [e_ks1]; exact zup_at _ _ _
  have kh3 : ks1.1 (y + 1) = .inl (0, 82, .inl g) := by rw [e_ks1, zup_ne _ _ (by omega)]; exact h1
  have kF4 := zFr.put zFr.rf (P := (fun q => q = y ∨ q = y + 7)) e_ks1 (by first | omega | simp)
  have kR5 : zWk y L ks1 := zWk.fr hL (zFr.put (P := fun q => q = y) zFr.rf e_ks1 rfl) (by intro q h1 h2 h3; (try simp only [zIn, zJf] at h3); omega)
  refine zr_aload_n dX10_takes_5 rfl ?_
  refine zr_iload_n dX10_takes_6 rfl ?_
  have kn6 := kR5.nil
  refine zr_callVv [] dX10_takes_7 vX10_82 (qM_adds hX (w := w) kh2 kh3 rfl kn6 hn hn16 hw (by first | omega | (simp only [List.length_nil]; omega))) kh2 (by decide) (by decide) (by decide) rfl rfl (Nat.le_of_ble_eq_true rfl) (by decide) rfl (fun s_kr7 h_kr7 => ?_)
  obtain ⟨F_kr7, g0_kr7, r0_kr7⟩ := h_kr7
  have kh8 : s_kr7.1 (y + 1) = .inl (0, 82, .inl g) := zFr.get F_kr7 (by omega) kh3
  have kF9 := zFr.tr kF4 F_kr7 (by intro q hq; omega)
  refine zr_return dX10_takes_10 rfl ?_
  have e1 : nI (([] : List Int32).length + n) = nI n := by rw [List.length_nil, Nat.zero_add]
  exact ⟨rfl, kF9, by rw [← e1]; exact g0_kr7, r0_kr7⟩

theorem zWk.snoc {y : Nat} {L : List Int32} {s s1 : zS} {wk : Nat → Int32} {x : Int32} (h : s.1 (y + 7) = .inl (0, 1300, .inl wk)) (h2 : zP wk L.length = L) (h3 : s1.1 (y + 7) = .inl (0, 1300, .inl (upd wk L.length x))) : zWk y (L ++ [x]) s1 := ⟨_, h3, by rw [List.length_append, List.length_singleton, zP_push, h2]⟩
theorem zA_snoc {f : Nat → Int32} {n i : Nat} {D : List Int32} (h : D ++ zA_ f (i + 1) = zA_ f n) : (D ++ [f i]) ++ zA_ f i = zA_ f n := by
  rw [← h, List.append_assoc]; rfl
theorem zA_dlen {f : Nat → Int32} {n i : Nat} {D : List Int32} (h : D ++ zA_ f i = zA_ f n) : D.length + i = n := by
  have := congrArg List.length h
  rw [List.length_append, zA_len, zA_len] at this
  exact this
set_option maxHeartbeats 400000 in
set_option maxRecDepth 100000 in
theorem l_tq {X : zX} (hX : X.1.stackTraces = false) {σ : zS} {y : Nat} {F : Nat → Int32}  {n w n2 w2 : Nat} {g : Nat → Int32} (h0 : σ.1 y = zmO y F) (h1 : σ.1 (y + 1) = .inl (0, 82, .inl g)) (hn : g w = nI n) (hn16 : n ≤ 16) (hw : w + 5 ≤ 82) (hn2 : g w2 = nI n2) (hn216 : n2 ≤ 16) (hw2 : w2 + 5 ≤ 82) : ∀ (i : Nat) (D : List Int32) (s : zS), (i ≤ n) → (zFr σ s (fun q => q = y ∨ q = y + 7)) → (s.1 y = zmO y (upd F 19 (nI D.length))) → (zWk y D s) → (D ++ zA_ (fun t => -(zdl g w t)) i = zA_ (fun t => -(zdl g w t)) n) → zW X mX10_takesQuotient 2 0 0 (zV (fun s => zFr σ s (fun q => q = y ∨ q = y + 7) ∧ s.1 y = zmO y (upd F 19 (nI (n + n2))) ∧ zWk y (zQw (zdl g w) n (zdl g w2) n2) s)) 16 [some (.ref y), some (.int (nI w)), some (.int (nI w2)), some (.int (nI i - 1))] [] s := by
  intro i
  induction i with
  | zero =>
    intro D s hi hFr k0 kW hD
    have k1 := zFr.get hFr (by omega) h1
    have dl := zA_dlen hD
    refine zr_iload_n dX10_takesQuotient_16 rfl ?_
    refine zr_if_lt (tgt := 52) dX10_takesQuotient_17 (by decide) (fun c_17 => ?_) (fun c_17 => absurd (by decide) c_17)
    have eD : D = zA_ (fun t => -(zdl g w t)) n := by rw [← hD]; exact (List.append_nil _).symm
    refine zr_aload_n dX10_takesQuotient_52 rfl ?_
    refine zr_iload_n dX10_takesQuotient_53 rfl ?_
    refine zr_callVv [] dX10_takesQuotient_54 vX10_82 (qM_adds hX (w := w2) k0 k1 rfl kW hn2 hn216 hw2 (by first | omega | (simp only [List.length_nil]; omega))) k0 (by decide) (by decide) (by decide) rfl rfl (Nat.le_of_ble_eq_true rfl) (by decide) rfl (fun s_kr1 h_kr1 => ?_)
    obtain ⟨F_kr1, g0_kr1, r0_kr1⟩ := h_kr1
    have kh2 : s_kr1.1 (y + 1) = .inl (0, 82, .inl g) := zFr.get F_kr1 (by omega) k1
    have kF3 := zFr.tr hFr F_kr1 (by intro q hq; omega)
    refine zr_return dX10_takesQuotient_57 rfl ?_
    have e1 : D.length + n2 = n + n2 := by omega
    refine ⟨rfl, kF3, by rw [← e1]; exact g0_kr1, ?_⟩
    have z := r0_kr1; rw [eD] at z; exact z
  | succ i ih =>
    intro D s hi hFr k0 kW hD
    have k1 := zFr.get hFr (by omega) h1
    have dl := zA_dlen hD
    rw [show nI (i + 1) - 1 = nI i from nI_pred i]
    refine zr_iload_n dX10_takesQuotient_16 rfl ?_
    refine zr_if_lt (tgt := 52) dX10_takesQuotient_17 (by decide) (fun c_17 => absurd c_17 (by exact fun q => absurd q (nI_pos (by omega)))) (fun c_17 => ?_)
    refine zr_aload_n dX10_takesQuotient_20 rfl ?_
    obtain ⟨wk1, wc1, we1⟩ := id kW
    refine zr_getM (v := .ref (y + 7)) dX10_takesQuotient_21 fX10_33 k0 rfl ?_
    refine zr_aload_n dX10_takesQuotient_24 rfl ?_
    refine zr_getM (v := .int (nI D.length)) dX10_takesQuotient_25 fX10_79 k0 rfl ?_
    refine zr_aload_n dX10_takesQuotient_28 rfl ?_
    refine zr_iload_n dX10_takesQuotient_29 rfl ?_
    refine zr_iload_n dX10_takesQuotient_30 rfl ?_
    refine zr_pVi [.int (nI D.length), .ref ((y + 7))] dX10_takesQuotient_31 vX10_86 (qX10_letter hX (w := w) (k := i) k0 k1 (by omega) (by omega)) k0 (by decide) (by decide) (by decide) rfl rfl (Nat.le_of_ble_eq_true rfl) (by decide) rfl ?_
    refine zr_ineg dX10_takesQuotient_34 ?_
    refine zr_iastore dX10_takesQuotient_35 wc1 (vp_in_nI (n := D.length) (by omega) (by omega)) ?_
    rw [nI_clamp (n := D.length) (by omega)]
    refine zr_sig (fun ks2 e_ks2 => ?_)
    have kh3 : ks2.1 y = zmO y (upd F 19 (nI D.length)) := by rw [e_ks2, zup_ne _ _ (by omega)]; exact k0
    have kh4 : ks2.1 (y + 1) = .inl (0, 82, .inl g) := by rw [e_ks2, zup_ne _ _ (by omega)]; exact k1
    have kh5 : ks2.1 (y + 7) = .inl (0, 1300, .inl (upd wk1 D.length (-(zdl g w i)))) := by rw [e_ks2]; exact zup_at _ _ _
    have kF6 := zFr.put hFr e_ks2 (by first | omega | simp)
    refine zr_aload_n dX10_takesQuotient_36 rfl ?_
    refine zr_dup dX10_takesQuotient_37 rfl ?_
    refine zr_getM (v := .int (nI D.length)) dX10_takesQuotient_38 fX10_79 kh3 rfl ?_
    refine zr_iconst (v := 1) dX10_takesQuotient_41 (by decide) ?_
    refine zr_iadd dX10_takesQuotient_42 ?_
    refine zr_eqi (x' := nI (D.length + 1)) (nI_add D.length 1) ?_
    refine zr_putM (v := nI (D.length + 1)) dX10_takesQuotient_43 pX10_79 kh3 (rfl) (rfl) (Nat.le_of_ble_eq_true rfl) (zms_19 _ _ _) ?_
    refine zr_sig (fun ks7 e_ks7 => ?_)
    have kh8 : ks7.1 y = zmO y (upd F 19 (nI (D.length + 1))) := by rw [e_ks7]; exact zup_at _ _ _
    have kh9 : ks7.1 (y + 1) = .inl (0, 82, .inl g) := by rw [e_ks7, zup_ne _ _ (by omega)]; exact kh4
    have kh10 : ks7.1 (y + 7) = .inl (0, 1300, .inl (upd wk1 D.length (-(zdl g w i)))) := by rw [e_ks7, zup_ne _ _ (by omega)]; exact kh5
    have kF11 := zFr.put kF6 e_ks7 (by first | omega | simp)
    refine zr_iinc (v := (nI i - 1)) (ls' := [some (.ref y), some (.int (nI w)), some (.int (nI w2)), some (.int ((nI i - 1)))]) dX10_takesQuotient_46 rfl (z_m1 _) (by decide) rfl ?_
    refine zr_goto (tgt := 16) dX10_takesQuotient_49 (by decide) ?_
    exact ih (D ++ [-(zdl g w i)]) _ (by omega) kF11 (by rw [List.length_append, List.length_singleton]; exact kh8) (zWk.snoc wc1 we1 kh10) (zA_snoc hD)

set_option maxHeartbeats 400000 in
set_option maxRecDepth 100000 in
theorem qX10_takesQuotient {X : zX} (hX : X.1.stackTraces = false) {σ : zS} {y : Nat} {F : Nat → Int32} {n w n2 w2 : Nat} {g : Nat → Int32} {L : List Int32} (h0 : σ.1 y = zmO y F) (h1 : σ.1 (y + 1) = .inl (0, 82, .inl g)) (hn : g w = nI n) (hn16 : n ≤ 16) (hw : w + 5 ≤ 82) (hn2 : g w2 = nI n2) (hn216 : n2 ≤ 16) (hw2 : w2 + 5 ≤ 82) (hL : zWk y L σ) : zMet X mX10_takesQuotient yX10_takesQuotient 2 0 0 [.ref y, .int (nI w), .int (nI w2)] σ (zV (fun s => zFr σ s (fun q => q = y ∨ q = y + 7) ∧ s.1 y = zmO y (upd F 19 (nI (n + n2))) ∧ zWk y (zQw (zdl g w) n (zdl g w2) n2) s)) := by
  refine zMet_of (ls := [some (.ref y), some (.int (nI w)), some (.int (nI w2)), none]) rfl (by decide +kernel) rfl (fun h => by cases h) hX (Nat.le_of_ble_eq_true rfl) rfl ?_
  refine zr_aload_n dX10_takesQuotient_0 rfl ?_
  refine zr_iconst (v := 0) dX10_takesQuotient_1 (by decide) ?_
  refine zr_putM (v := 0) dX10_takesQuotient_2 pX10_79 h0 (rfl) (rfl) (Nat.le_of_ble_eq_true rfl) (zms_19 _ _ _) ?_
  refine zr_sig (fun ks1 e_ks1 => ?_)
  have kh2 : ks1.1 y = zmO y (upd F 19 0) := by rw [e_ks1]; exact zup_at _ _ _
  have kh3 : ks1.1 (y + 1) = .inl (0, 82, .inl g) := by rw [e_ks1, zup_ne _ _ (by omega)]; exact h1
  have kF4 := zFr.put zFr.rf (P := (fun q => q = y ∨ q = y + 7)) e_ks1 (by first | omega | simp)
  have kR5 : zWk y L ks1 := zWk.fr hL (zFr.put (P := fun q => q = y) zFr.rf e_ks1 rfl) (by intro q h1 h2 h3; (try simp only [zIn, zJf] at h3); omega)
  refine zr_aload_n dX10_takesQuotient_5 rfl ?_
  refine zr_getM (v := .ref (y + 1)) dX10_takesQuotient_6 fX10_7 kh2 rfl ?_
  refine zr_iload_n dX10_takesQuotient_9 rfl ?_
  refine zr_iconst (v := 0) dX10_takesQuotient_10 (by decide) ?_
  refine zr_iadd dX10_takesQuotient_11 ?_
  refine zr_eqi (x' := nI (w + 0)) (nI_add w 0) ?_
  refine zr_iaload dX10_takesQuotient_12 kh3 (vp_in_nI (n := w + 0) (by omega) (by omega)) ?_
  rw [nI_clamp (n := w + 0) (by omega)]
  refine zr_eqi (x' := nI n) (hn) ?_
  refine zr_iconst (v := 1) dX10_takesQuotient_13 (by decide) ?_
  refine zr_isub dX10_takesQuotient_14 ?_
  refine zr_eqi (x' := (nI n - 1)) (rfl) ?_
  have kn6 := kR5.nil
  refine zr_istore_n (ls' := [some (.ref y), some (.int (nI w)), some (.int (nI w2)), some (.int ((nI n - 1)))]) dX10_takesQuotient_15 rfl (by decide) rfl ?_
  exact l_tq hX h0 h1 hn hn16 hw hn2 hn216 hw2 n [] _ (Nat.le_refl _) kF4 kh2 kn6 rfl

/-- a word laid into a row -/
def zkw (g0 g : Nat → Int32) (w n i : Nat) (L : List Int32) : Prop := g w = nI n ∧ (∀ k, k < i → zdl g w k = wv L k) ∧ ∀ q, q ≠ w → q ≠ w + 3 → q ≠ w + 4 → g q = g0 q
theorem zkw_s {g0 g : Nat → Int32} {w n i : Nat} {L : List Int32} (h : zkw g0 g w n i L) (hi : i < 16) {x : Int32} (hx : zLt x) (e : x = wv L i) : zkw g0 (zlg g w i x) w n (i + 1) L := by
  obtain ⟨h1, h2, h3⟩ := h
  refine ⟨(zlg_o g w i x (by omega)).trans h1, fun k hk => ?_, fun q a b c => (zlg_o g w i x (by omega)).trans (h3 q a b c)⟩
  by_cases e2 : k = i
  · rw [e2, zlg_at g w i hx, e]
  · rw [zlg_ne g w hx e2]; exact h2 k (by omega)
theorem zkw_0 (g : Nat → Int32) (w : Nat) (n x z : Int32) {m : Nat} (e : n = nI m) (L : List Int32) : zkw g (upd (upd (upd g w n) (w + 3) x) (w + 3 + 1) z) w m 0 L := by
  refine ⟨?_, fun k hk => absurd hk (by omega), fun q a b c => ?_⟩
  · rw [upd_ne _ _ (by omega), upd_ne _ _ (by omega), upd_at]; exact e
  · rw [upd_ne _ _ (by omega), upd_ne _ _ (by omega), upd_ne _ _ a]
set_option maxHeartbeats 400000 in
set_option maxRecDepth 100000 in
theorem l_kw {X : zX} (hX : X.1.stackTraces = false) {σ : zS} {y : Nat} {F : Nat → Int32} {w : Nat} {g : Nat → Int32} {L : List Int32} (h0 : σ.1 y = zmO y F) (h1 : σ.1 (y + 1) = .inl (0, 82, .inl g)) (hF : F 19 = nI L.length) (hL : zWk y L σ) (hl16 : L.length ≤ 16) (hlt : zAll L) (hw : w + 5 ≤ 82) : ∀ (j i : Nat) (s : zS) (g1 : Nat → Int32), i + j = L.length → (zFr σ s (fun q => q = y + 1)) → (s.1 (y + 1) = .inl (0, 82, .inl g1)) → (zkw g g1 w L.length i L) → zW X mX10_keepsWord 1 0 0 (zV (fun s => zFr σ s (fun q => q = y + 1) ∧ ∃ g1, s.1 (y + 1) = .inl (0, 82, .inl g1) ∧ zkw g g1 w L.length L.length L)) 34 [some (.ref y), some (.int (nI w)), some (.int (nI i))] [] s := by
  intro j
  induction j with
  | zero =>
    intro i s g1 hi hFr k1 kk
    have k0 := zFr.get hFr (by omega) h0
    obtain ⟨wk, w1, w2⟩ := id hL
    have kw := zFr.get hFr (by omega) w1
    refine zr_iload_n dX10_keepsWord_34 rfl ?_
    refine zr_aload_n dX10_keepsWord_35 rfl ?_
    refine zr_getM (v := .int (F 19)) dX10_keepsWord_36 fX10_79 k0 rfl ?_
    refine zr_eqi (x' := nI L.length) (hF) ?_
    refine zr_icmp_ge (tgt := 60) dX10_keepsWord_39 (by decide) (fun c_39 => ?_) (fun c_39 => absurd ((nI_leI (a := L.length) (b := i) (by omega) (by omega)).mpr (by omega)) c_39)
    exact zr_return dX10_keepsWord_60 rfl (by have e1 : i = L.length := (by omega); subst e1; exact ⟨rfl, hFr, g1, k1, kk⟩)
  | succ j ih =>
    intro i s g1 hi hFr k1 kk
    have k0 := zFr.get hFr (by omega) h0
    obtain ⟨wk, w1, w2⟩ := id hL
    have kw := zFr.get hFr (by omega) w1
    have ew : wk i = wv L i := by rw [← w2]; unfold wv; exact (zP_get (f := wk) (n := L.length) (by omega)).symm
    have hx : zLt (wv L i) := zwv_lt hlt i (by omega)
    refine zr_iload_n dX10_keepsWord_34 rfl ?_
    refine zr_aload_n dX10_keepsWord_35 rfl ?_
    refine zr_getM (v := .int (F 19)) dX10_keepsWord_36 fX10_79 k0 rfl ?_
    refine zr_eqi (x' := nI L.length) (hF) ?_
    refine zr_icmp_ge (tgt := 60) dX10_keepsWord_39 (by decide) (fun c_39 => absurd c_39 (fun h => absurd ((nI_leI (a := L.length) (b := i) (by omega) (by omega)).mp h) (by omega))) (fun c_39 => ?_)
    refine zr_aload_n dX10_keepsWord_42 rfl ?_
    refine zr_iload_n dX10_keepsWord_43 rfl ?_
    refine zr_iload_n dX10_keepsWord_44 rfl ?_
    refine zr_aload_n dX10_keepsWord_45 rfl ?_
    refine zr_getM (v := .ref (y + 7)) dX10_keepsWord_46 fX10_33 k0 rfl ?_
    refine zr_iload_n dX10_keepsWord_49 rfl ?_
    refine zr_iaload dX10_keepsWord_50 kw (vp_in_nI (n := i) (by omega) (by omega)) ?_
    rw [nI_clamp (n := i) (by omega)]
    refine zr_eqi (x' := (wv L i)) (ew) ?_
    refine zr_callVv [] dX10_keepsWord_51 vX10_90 (qX10_lays hX (w := w) (k := i) (l := (wv L i)) k0 k1 (by omega) (by omega)) k0 (by decide) (by decide) (by decide) rfl rfl (Nat.le_of_ble_eq_true rfl) (by decide) rfl (fun s_kr1 h_kr1 => ?_)
    obtain ⟨F_kr1, g0_kr1⟩ := h_kr1
    have kh2 : s_kr1.1 y = zmO y F := zFr.get F_kr1 (by omega) k0
    have kh3 : s_kr1.1 (y + 7) = .inl (0, 1300, .inl wk) := zFr.get F_kr1 (by omega) kw
    have kF4 := zFr.tr hFr F_kr1 (by intro q hq; exact hq)
    refine zr_iinc (v := nI (i + 1)) (ls' := [some (.ref y), some (.int (nI w)), some (.int (nI (i + 1)))]) dX10_keepsWord_54 rfl (nI_1 _) (by decide) rfl ?_
    refine zr_goto (tgt := 34) dX10_keepsWord_57 (by decide) ?_
    exact ih (i + 1) _ _ (by omega) (kF4) (g0_kr1) (zkw_s kk (by omega) hx rfl)

set_option maxHeartbeats 400000 in
set_option maxRecDepth 100000 in
theorem qX10_keepsWord {X : zX} (hX : X.1.stackTraces = false) {σ : zS} {y : Nat} {F : Nat → Int32} {w : Nat} {g : Nat → Int32} {L : List Int32} (h0 : σ.1 y = zmO y F) (h1 : σ.1 (y + 1) = .inl (0, 82, .inl g)) (hF : F 19 = nI L.length) (hL : zWk y L σ) (hl16 : L.length ≤ 16) (hlt : zAll L) (hw : w + 5 ≤ 82) : zMet X mX10_keepsWord yX10_keepsWord 1 0 0 [.ref y, .int (nI w)] σ (zV (fun s => zFr σ s (fun q => q = y + 1) ∧ ∃ g1, s.1 (y + 1) = .inl (0, 82, .inl g1) ∧ zkw g g1 w L.length L.length L)) := by
  refine zMet_of (ls := [some (.ref y), some (.int (nI w)), none]) rfl (by decide +kernel) rfl (fun h => by cases h) hX (Nat.le_of_ble_eq_true rfl) rfl ?_
  refine zr_aload_n dX10_keepsWord_0 rfl ?_
  refine zr_getM (v := .ref (y + 1)) dX10_keepsWord_1 fX10_7 h0 rfl ?_
  refine zr_iload_n dX10_keepsWord_4 rfl ?_
  refine zr_iconst (v := 0) dX10_keepsWord_5 (by decide) ?_
  refine zr_iadd dX10_keepsWord_6 ?_
  refine zr_eqi (x' := nI (w + 0)) (nI_add w 0) ?_
  refine zr_aload_n dX10_keepsWord_7 rfl ?_
  refine zr_getM (v := .int (F 19)) dX10_keepsWord_8 fX10_79 h0 rfl ?_
  refine zr_eqi (x' := nI L.length) (hF) ?_
  refine zr_iastore dX10_keepsWord_11 h1 (vp_in_nI (n := w + 0) (by omega) (by omega)) ?_
  rw [nI_clamp (n := w + 0) (by omega)]
  refine zr_sig (fun ks1 e_ks1 => ?_)
  have kh2 : ks1.1 y = zmO y F := by rw [e_ks1, zup_ne _ _ (by omega)]; exact h0
  have kh3 : ks1.1 (y + 1) = .inl (0, 82, .inl (upd g (w + 0) (nI L.length))) := by rw [e_ks1]; exact zup_at _ _ _
  have kF4 := zFr.put zFr.rf (P := (fun q => q = y + 1)) e_ks1 rfl
  have kR5 : zWk y L ks1 := zWk.fr hL (zFr.put (P := fun q => q = (y + 1)) zFr.rf e_ks1 rfl) (by intro q h1 h2 h3; (try simp only [zIn, zJf] at h3); omega)
  refine zr_aload_n dX10_keepsWord_12 rfl ?_
  refine zr_getM (v := .ref (y + 1)) dX10_keepsWord_13 fX10_7 kh2 rfl ?_
  refine zr_iload_n dX10_keepsWord_16 rfl ?_
  refine zr_iconst (v := 3) dX10_keepsWord_17 (by decide) ?_
  refine zr_iadd dX10_keepsWord_18 ?_
  refine zr_eqi (x' := nI (w + 3)) (nI_add w 3) ?_
  refine zr_iconst (v := 0) dX10_keepsWord_19 (by decide) ?_
  refine zr_iastore dX10_keepsWord_20 kh3 (vp_in_nI (n := w + 3) (by omega) (by omega)) ?_
  rw [nI_clamp (n := w + 3) (by omega)]
  refine zr_sig (fun ks6 e_ks6 => ?_)
  have kh7 : ks6.1 y = zmO y F := by rw [e_ks6, zup_ne _ _ (by omega)]; exact kh2
  have kh8 : ks6.1 (y + 1) = .inl (0, 82, .inl (upd (upd g (w + 0) (nI L.length)) (w + 3) 0)) := by rw [e_ks6]; exact zup_at _ _ _
  have kF9 := zFr.put kF4 e_ks6 rfl
  have kR10 : zWk y L ks6 := zWk.fr kR5 (zFr.put (P := fun q => q = (y + 1)) zFr.rf e_ks6 rfl) (by intro q h1 h2 h3; (try simp only [zIn, zJf] at h3); omega)
  refine zr_aload_n dX10_keepsWord_21 rfl ?_
  refine zr_getM (v := .ref (y + 1)) dX10_keepsWord_22 fX10_7 kh7 rfl ?_
  refine zr_iload_n dX10_keepsWord_25 rfl ?_
  refine zr_iconst (v := 3) dX10_keepsWord_26 (by decide) ?_
  refine zr_iadd dX10_keepsWord_27 ?_
  refine zr_eqi (x' := nI (w + 3)) (nI_add w 3) ?_
  refine zr_iconst (v := 1) dX10_keepsWord_28 (by decide) ?_
  refine zr_iadd dX10_keepsWord_29 ?_
  refine zr_eqi (x' := nI ((w + 3) + 1)) (nI_add (w + 3) 1) ?_
  refine zr_iconst (v := 0) dX10_keepsWord_30 (by decide) ?_
  refine zr_iastore dX10_keepsWord_31 kh8 (vp_in_nI (n := (w + 3) + 1) (by omega) (by omega)) ?_
  rw [nI_clamp (n := (w + 3) + 1) (by omega)]
  refine zr_sig (fun ks11 e_ks11 => ?_)
  have kh12 : ks11.1 y = zmO y F := by rw [e_ks11, zup_ne _ _ (by omega)]; exact kh7
  have kh13 : ks11.1 (y + 1) = .inl (0, 82, .inl (upd (upd (upd g (w + 0) (nI L.length)) (w + 3) 0) ((w + 3) + 1) 0)) := by rw [e_ks11]; exact zup_at _ _ _
  have kF14 := zFr.put kF9 e_ks11 rfl
  have kR15 : zWk y L ks11 := zWk.fr kR10 (zFr.put (P := fun q => q = (y + 1)) zFr.rf e_ks11 rfl) (by intro q h1 h2 h3; (try simp only [zIn, zJf] at h3); omega)
  refine zr_iconst (v := 0) dX10_keepsWord_32 (by decide) ?_
  refine zr_istore_n (ls' := [some (.ref y), some (.int (nI w)), some (.int 0)]) dX10_keepsWord_33 rfl (by decide) rfl ?_
  exact l_kw hX h0 h1 hF hL hl16 hlt hw L.length 0 _ _ (by omega) kF14 kh13 (zkw_0 g w _ _ _ rfl L)

