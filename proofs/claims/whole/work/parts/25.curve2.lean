theorem zA_mem (f : Nat → Int32) : ∀ {n a : Nat}, a < n → f a ∈ zA_ f n
  | 0, a, h => absurd h (Nat.not_lt_zero a)
  | n + 1, a, h => by
    simp only [zA_]
    by_cases e : a = n
    · subst e; exact List.mem_cons_self
    · exact List.mem_cons_of_mem _ (zA_mem f (by omega))
set_option maxHeartbeats 400000 in
set_option maxRecDepth 100000 in
theorem l_dq2 {X : zX} (hX : X.1.stackTraces = false) {σ : zS} {v a x2 b2 k k2 : Nat} {e e2 : Nat → Int32} (hva : v ≠ a) (h0 : σ.1 v = .inr (0, [.ref a])) (hw2 : σ.1 x2 = .inr (6, [.ref b2, .int (nI k2)])) (hb2 : σ.1 b2 = .inl (0, 16, .inl e2)) (hk2 : k2 ≤ 16) (hxa2 : x2 ≠ a) (hba2 : b2 ≠ a) (hl : ∀ y ∈ zQw e k e2 k2, zLt y) (hB : zBw (zQw e k e2 k2)) : ∀ (j i : Nat) (s : zS) (w : Nat → Int) (x1 : Option Value), i + j = k2 → (zFr σ s (fun q => q = a)) → (s.1 a = .inl (3, 10, .inr (.inl (z64 w)))) → (zSm w (zcv z0 (zA_ (fun t => -(e t)) k ++ zP e2 i))) → zW X mX2_drawQuotient 3 0 0 (zV (fun s => zFr σ s (fun q => q = a) ∧ ∃ w1, zSm w1 (zcv z0 (zQw e k e2 k2)) ∧ s.1 a = .inl (3, 10, .inr (.inl (z64 w1))))) 34 [some (.ref v), x1, some (.ref x2), some (.int (nI i))] [] s := by
  intro j
  induction j with
  | zero =>
    intro i s w x1 hi hF h1 hz
    have kv := zFr.get hF (by omega) h0
    have kx2 := zFr.get hF (by omega) hw2
    have kb2 := zFr.get hF (by omega) hb2
    refine zr_iload_n dX2_drawQuotient_34 rfl ?_
    refine zr_aload_n dX2_drawQuotient_35 rfl ?_
    refine zr_getfield dX2_drawQuotient_36 fX2_18 kx2 rfl (by decide) ?_
    refine zr_icmp_ge (tgt := 58) dX2_drawQuotient_39 (by decide) (fun c_39 => ?_) (fun c_39 => absurd ((nI_leI (a := k2) (b := i) (by omega) (by omega)).mpr (by omega)) c_39)
    exact zr_return dX2_drawQuotient_58 rfl (⟨rfl, hF, w, (by rw [show i = k2 from by omega] at hz; exact hz), h1⟩)
  | succ j ih =>
    intro i s w x1 hi hF h1 hz
    have kv := zFr.get hF (by omega) h0
    have kx2 := zFr.get hF (by omega) hw2
    have kb2 := zFr.get hF (by omega) hb2
    have hlt : zLt (e2 i) := hl _ (List.mem_append_right _ (zP_mem e2 (by omega)))
    have hbd : zBd 1152921504606846976 w := hB.at (M := zA_ (fun t => -(e t)) k ++ zP e2 i) (N := zSl e2 (i + 1) (k2 - (i + 1))) (l := e2 i) (by rw [List.append_assoc, ← zP_split e2 (by omega)]; rfl) hz
    refine zr_iload_n dX2_drawQuotient_34 rfl ?_
    refine zr_aload_n dX2_drawQuotient_35 rfl ?_
    refine zr_getfield dX2_drawQuotient_36 fX2_18 kx2 rfl (by decide) ?_
    refine zr_icmp_ge (tgt := 58) dX2_drawQuotient_39 (by decide) (fun c_39 => absurd c_39 (fun h => absurd ((nI_leI (a := k2) (b := i) (by omega) (by omega)).mp h) (by omega))) (fun c_39 => ?_)
    refine zr_aload_n dX2_drawQuotient_42 rfl ?_
    refine zr_aload_n dX2_drawQuotient_43 rfl ?_
    refine zr_getfield dX2_drawQuotient_44 fX2_24 kx2 rfl (by decide) ?_
    refine zr_iload_n dX2_drawQuotient_47 rfl ?_
    refine zr_iaload dX2_drawQuotient_48 kb2 (vp_in_nI (n := i) (by omega) (by omega)) ?_
    rw [nI_clamp (n := i) (by omega)]
    refine zr_callVv [] dX2_drawQuotient_49 vX2_28 (qX2_follow hX (l := (e2 i)) (by omega) kv h1 (by assumption) (by assumption)) kv (by decide) (by decide) (by decide) rfl rfl (Nat.le_of_ble_eq_true rfl) (by decide) rfl (fun s_kr1 h_kr1 => ?_)
    obtain ⟨F_kr1, g0_kr1⟩ := h_kr1
    have kh2 : s_kr1.1 v = .inr (0, [.ref a]) := zFr.get F_kr1 (by omega) kv
    have kh3 : s_kr1.1 x2 = .inr (6, [.ref b2, .int (nI k2)]) := zFr.get F_kr1 (by omega) kx2
    have kh4 : s_kr1.1 b2 = .inl (0, 16, .inl e2) := zFr.get F_kr1 (by omega) kb2
    have kF5 := zFr.tr hF F_kr1 (by intro q hq; omega)
    refine zr_iinc (v := nI (i + 1)) (ls' := [some (.ref v), x1, some (.ref x2), some (.int (nI (i + 1)))]) dX2_drawQuotient_52 rfl (nI_1 _) (by decide) rfl ?_
    refine zr_goto (tgt := 34) dX2_drawQuotient_55 (by decide) ?_
    exact ih (i + 1) _ _ _ (by omega) (kF5) (g0_kr1) (by simp only [zP]; rw [← List.append_assoc, zcv_snoc]; exact zsl_sm hz hlt)

set_option maxHeartbeats 400000 in
set_option maxRecDepth 100000 in
theorem l_dq1 {X : zX} (hX : X.1.stackTraces = false) {σ : zS} {v a x b k x2 b2 k2 : Nat} {e e2 : Nat → Int32} (hva : v ≠ a) (h0 : σ.1 v = .inr (0, [.ref a])) (hw : σ.1 x = .inr (6, [.ref b, .int (nI k)])) (hb : σ.1 b = .inl (0, 16, .inl e)) (hk : k ≤ 16) (hxa : x ≠ a) (hba : b ≠ a) (hw2 : σ.1 x2 = .inr (6, [.ref b2, .int (nI k2)])) (hb2 : σ.1 b2 = .inl (0, 16, .inl e2)) (hk2 : k2 ≤ 16) (hxa2 : x2 ≠ a) (hba2 : b2 ≠ a) (hl : ∀ y ∈ zQw e k e2 k2, zLt y) (hB : zBw (zQw e k e2 k2)) : ∀ (i : Nat) (s : zS) (w : Nat → Int) (D : List Int32), (i ≤ k) → (zFr σ s (fun q => q = a)) → (s.1 a = .inl (3, 10, .inr (.inl (z64 w)))) → (zSm w (zcv z0 D)) → (D ++ zA_ (fun t => -(e t)) i = zA_ (fun t => -(e t)) k) → zW X mX2_drawQuotient 3 0 0 (zV (fun s => zFr σ s (fun q => q = a) ∧ ∃ w1, zSm w1 (zcv z0 (zQw e k e2 k2)) ∧ s.1 a = .inl (3, 10, .inr (.inl (z64 w1))))) 11 [some (.ref v), some (.ref x), some (.ref x2), some (.int ((nI i - 1)))] [] s := by
  intro i
  induction i with
  | zero =>
    intro s w D hi hF h1 hz hD
    have kv := zFr.get hF (by omega) h0
    have kx := zFr.get hF (by omega) hw
    have kb := zFr.get hF (by omega) hb
    refine zr_iload_n dX2_drawQuotient_11 rfl ?_
    refine zr_if_lt (tgt := 32) dX2_drawQuotient_12 (by decide) (fun c_12 => ?_) (fun c_12 => absurd (by decide) c_12)
    refine zr_iconst (v := 0) dX2_drawQuotient_32 (by decide) ?_
    refine zr_istore_n (ls' := [some (.ref v), some (.ref x), some (.ref x2), some (.int 0)]) dX2_drawQuotient_33 rfl (by decide) rfl ?_
    exact l_dq2 hX hva h0 hw2 hb2 hk2 hxa2 hba2 hl hB k2 0 s w _ (by omega) hF h1 (by rw [show D = zA_ (fun t => -(e t)) k from by simpa [zA_] using hD] at hz; simpa [zP] using hz)
  | succ i ih =>
    intro s w D hi hF h1 hz hD
    rw [show nI (i + 1) - 1 = nI i from nI_pred i]
    have kv := zFr.get hF (by omega) h0
    have kx := zFr.get hF (by omega) hw
    have kb := zFr.get hF (by omega) hb
    have hlt : zLt (-(e i)) := hl _ (List.mem_append_left _ (zA_mem (fun t => -(e t)) (by omega)))
    have hbd : zBd 1152921504606846976 w := hB.at (M := D) (N := zA_ (fun t => -(e t)) i ++ zP e2 k2) (l := -(e i)) (by unfold zQw; rw [← hD]; simp only [zA_, List.append_assoc, List.cons_append]) hz
    refine zr_iload_n dX2_drawQuotient_11 rfl ?_
    refine zr_if_lt (tgt := 32) dX2_drawQuotient_12 (by decide) (fun c_12 => absurd c_12 (nI_pos (by omega))) (fun c_12 => ?_)
    refine zr_aload_n dX2_drawQuotient_15 rfl ?_
    refine zr_aload_n dX2_drawQuotient_16 rfl ?_
    refine zr_getfield dX2_drawQuotient_17 fX2_24 kx rfl (by decide) ?_
    refine zr_iload_n dX2_drawQuotient_20 rfl ?_
    refine zr_iaload dX2_drawQuotient_21 kb (vp_in_nI (n := i) (by omega) (by omega)) ?_
    rw [nI_clamp (n := i) (by omega)]
    refine zr_ineg dX2_drawQuotient_22 ?_
    refine zr_callVv [] dX2_drawQuotient_23 vX2_28 (qX2_follow hX (l := (-(e i))) (by omega) kv h1 (by assumption) (by assumption)) kv (by decide) (by decide) (by decide) rfl rfl (Nat.le_of_ble_eq_true rfl) (by decide) rfl (fun s_kr1 h_kr1 => ?_)
    obtain ⟨F_kr1, g0_kr1⟩ := h_kr1
    have kh2 : s_kr1.1 v = .inr (0, [.ref a]) := zFr.get F_kr1 (by omega) kv
    have kh3 : s_kr1.1 x = .inr (6, [.ref b, .int (nI k)]) := zFr.get F_kr1 (by omega) kx
    have kh4 : s_kr1.1 b = .inl (0, 16, .inl e) := zFr.get F_kr1 (by omega) kb
    have kF5 := zFr.tr hF F_kr1 (by intro q hq; omega)
    refine zr_iinc (v := nI i + (-1)) (ls' := [some (.ref v), some (.ref x), some (.ref x2), some (.int ((nI i + (-1))))]) dX2_drawQuotient_26 rfl (by rfl) (by decide) rfl ?_
    refine zr_goto (tgt := 11) dX2_drawQuotient_29 (by decide) ?_
    rw [z_m1]; exact ih _ _ _ (by omega) (kF5) (g0_kr1) (by rw [zcv_snoc]; exact zsl_sm hz hlt) (by rw [← hD]; simp only [zA_, List.append_assoc, List.cons_append, List.nil_append])

set_option maxHeartbeats 400000 in
set_option maxRecDepth 100000 in
theorem qX2_drawQuotient {X : zX} (hX : X.1.stackTraces = false) {σ : zS} {v a x b k x2 b2 k2 : Nat} {e e2 : Nat → Int32} {w : Nat → Int} (hva : v ≠ a) (h0 : σ.1 v = .inr (0, [.ref a])) (h1 : σ.1 a = .inl (3, 10, .inr (.inl (z64 w)))) (hw : σ.1 x = .inr (6, [.ref b, .int (nI k)])) (hb : σ.1 b = .inl (0, 16, .inl e)) (hk : k ≤ 16) (hxa : x ≠ a) (hba : b ≠ a) (hw2 : σ.1 x2 = .inr (6, [.ref b2, .int (nI k2)])) (hb2 : σ.1 b2 = .inl (0, 16, .inl e2)) (hk2 : k2 ≤ 16) (hxa2 : x2 ≠ a) (hba2 : b2 ≠ a) (hl : ∀ y ∈ zQw e k e2 k2, zLt y) (hB : zBw (zQw e k e2 k2)) : zMet X mX2_drawQuotient yX2_drawQuotient 3 0 0 [.ref v, .ref x, .ref x2] σ (zV (fun s => zFr σ s (fun q => q = a) ∧ ∃ w1, zSm w1 (zcv z0 (zQw e k e2 k2)) ∧ s.1 a = .inl (3, 10, .inr (.inl (z64 w1))))) := by
  refine zMet_of (ls := [some (.ref v), some (.ref x), some (.ref x2), none]) rfl (by decide +kernel) rfl (fun h => by cases h) hX (Nat.le_of_ble_eq_true rfl) rfl ?_
  refine zr_aload_n dX2_drawQuotient_0 rfl ?_
  refine zr_callVv [] dX2_drawQuotient_1 vX2_15 (qX2_straighten hX (by omega) h0 h1) h0 (by decide) (by decide) (by decide) rfl rfl (Nat.le_of_ble_eq_true rfl) (by decide) rfl (fun s_kr1 h_kr1 => ?_)
  obtain ⟨F_kr1, kw2, kz3, g_kr1⟩ := h_kr1
  have kh4 : s_kr1.1 v = .inr (0, [.ref a]) := zFr.get F_kr1 (by omega) h0
  have kh5 : s_kr1.1 x = .inr (6, [.ref b, .int (nI k)]) := zFr.get F_kr1 (by omega) hw
  have kh6 : s_kr1.1 b = .inl (0, 16, .inl e) := zFr.get F_kr1 (by omega) hb
  have kh7 : s_kr1.1 x2 = .inr (6, [.ref b2, .int (nI k2)]) := zFr.get F_kr1 (by omega) hw2
  have kh8 : s_kr1.1 b2 = .inl (0, 16, .inl e2) := zFr.get F_kr1 (by omega) hb2
  have kF9 := zFr.tr zFr.rf (P := fun q => q = a) F_kr1 (by intro q hq; omega)
  refine zr_aload_n dX2_drawQuotient_4 rfl ?_
  refine zr_getfield dX2_drawQuotient_5 fX2_18 kh5 rfl (by decide) ?_
  refine zr_iconst (v := 1) dX2_drawQuotient_8 (by decide) ?_
  refine zr_isub dX2_drawQuotient_9 ?_
  refine zr_eqi (x' := nI k - 1) (rfl) ?_
  refine zr_istore_n (ls' := [some (.ref v), some (.ref x), some (.ref x2), some (.int (nI k - 1))]) dX2_drawQuotient_10 rfl (by decide) rfl ?_
  exact l_dq1 hX hva h0 hw hb hk hxa hba hw2 hb2 hk2 hxa2 hba2 hl hB k _ _ [] (Nat.le_refl _) kF9 g_kr1 kz3 (List.nil_append _)

def zsI (a : Int) : Int32 := if a = 0 then 0 else if 0 < a then 1 else -1
def zsf (w : Nat → Int) : Int32 := if w 0 = 0 then (if w 2 = 0 then (if w 4 = 0 then (if w 6 = 0 then (if w 8 = 0 then 0 else zsI (w 8)) else zsI (w 6)) else zsI (w 4)) else zsI (w 2)) else zsI (w 0)
theorem lI_z {a : Int} (h : -4611686018427387904 ≤ a ∧ a ≤ 4611686018427387904) : lI a = lI 0 ↔ a = 0 := lI_eq (by omega) (by omega)
theorem zsg_lI {a : Int} (h : -4611686018427387904 ≤ a ∧ a ≤ 4611686018427387904) : zsg (lI a) = zsI a := by
  unfold zsg zsI
  have e : lI a = 0 ↔ a = 0 := lI_z h
  have e2 : 0 < lI a ↔ 0 < a := lI_lt (a := 0) (b := a) (by omega) (by omega)
  simp only [e, e2]
theorem zsf_sm {w w1 : Nat → Int} (h : zSm w w1) : zsf w = zsf w1 := by
  unfold zsf; rw [h 0 (by decide), h 2 (by decide), h 4 (by decide), h 6 (by decide), h 8 (by decide)]
def zSmb (w w1 : Nat → Int) : Bool := (List.range 10).all (fun k => w k == w1 k)
theorem zSmb_iff {w w1 : Nat → Int} : zSmb w w1 = true ↔ zSm w w1 := by
  unfold zSmb zSm
  rw [List.all_eq_true]
  constructor
  · intro h k hk; exact eq_of_beq (h k (List.mem_range.mpr hk))
  · intro h k hk; exact beq_iff_eq.mpr (h k (List.mem_range.mp hk))
set_option maxHeartbeats 400000 in
set_option maxRecDepth 100000 in
theorem qX2_signOfFirst {X : zX} (hX : X.1.stackTraces = false) {σ : zS} {v a : Nat} {w : Nat → Int} (h0 : σ.1 v = .inr (0, [.ref a])) (h1 : σ.1 a = .inl (3, 10, .inr (.inl (z64 w)))) (hb : zBd 4611686018427387904 w) : zMet X mX2_signOfFirst yX2_signOfFirst 1 0 0 [.ref v] σ (zI (fun r s => r = zsf w ∧ s = σ)) := by
  refine zMet_of (ls := [some (.ref v), none]) rfl (by decide +kernel) rfl (fun h => by cases h) hX (Nat.le_of_ble_eq_true rfl) rfl ?_
  refine zr_iconst (v := 0) dX2_signOfFirst_0 (by decide) ?_
  refine zr_istore_n (ls' := [some (.ref v), some (.int 0)]) dX2_signOfFirst_1 rfl (by decide) rfl ?_
  refine zr_iload_n dX2_signOfFirst_2 rfl ?_
  refine zr_bipush (v := 10) dX2_signOfFirst_3 (by decide) ?_
  refine zr_icmp_ge (tgt := 35) dX2_signOfFirst_5 (by decide) (fun c_5 => absurd c_5 (by decide)) (fun c_5 => ?_)
  refine zr_aload_n dX2_signOfFirst_8 rfl ?_
  refine zr_getfield dX2_signOfFirst_9 fX2_9 h0 rfl (by decide) ?_
  refine zr_iload_n dX2_signOfFirst_12 rfl ?_
  refine zr_laload dX2_signOfFirst_13 h1 (vp_in_nI (n := 0) (by omega) (by omega)) ?_
  rw [show (0 : Int32).toNatClampNeg = 0 from by decide]
  refine zr_eql (x' := lI (w 0)) rfl ?_
  refine zr_lconst (v := lI 0) dX2_signOfFirst_14 (by decide) ?_
  refine zr_lcmp dX2_signOfFirst_15 ?_
  refine zr_if_eq (tgt := 29) dX2_signOfFirst_16 (by decide) (fun c_16 => ?_) (fun c_16 => ?_)
  · have d0 : w 0 = 0 := (lI_z (hb 0 (by decide))).mp (zcmp_eq.mp c_16)
    refine zr_iinc (v := 2) (ls' := [some (.ref v), some (.int 2)]) dX2_signOfFirst_29 rfl (by decide) (by decide) rfl ?_
    refine zr_goto (tgt := 2) dX2_signOfFirst_32 (by decide) ?_
    refine zr_iload_n dX2_signOfFirst_2 rfl ?_
    refine zr_bipush (v := 10) dX2_signOfFirst_3 (by decide) ?_
    refine zr_icmp_ge (tgt := 35) dX2_signOfFirst_5 (by decide) (fun c_5 => absurd c_5 (by decide)) (fun c_5 => ?_)
    refine zr_aload_n dX2_signOfFirst_8 rfl ?_
    refine zr_getfield dX2_signOfFirst_9 fX2_9 h0 rfl (by decide) ?_
    refine zr_iload_n dX2_signOfFirst_12 rfl ?_
    refine zr_laload dX2_signOfFirst_13 h1 (vp_in_nI (n := 2) (by omega) (by omega)) ?_
    rw [show (2 : Int32).toNatClampNeg = 2 from by decide]
    refine zr_eql (x' := lI (w 2)) rfl ?_
    refine zr_lconst (v := lI 0) dX2_signOfFirst_14 (by decide) ?_
    refine zr_lcmp dX2_signOfFirst_15 ?_
    refine zr_if_eq (tgt := 29) dX2_signOfFirst_16 (by decide) (fun c_16 => ?_) (fun c_16 => ?_)
    · have d2 : w 2 = 0 := (lI_z (hb 2 (by decide))).mp (zcmp_eq.mp c_16)
      refine zr_iinc (v := 4) (ls' := [some (.ref v), some (.int 4)]) dX2_signOfFirst_29 rfl (by decide) (by decide) rfl ?_
      refine zr_goto (tgt := 2) dX2_signOfFirst_32 (by decide) ?_
      refine zr_iload_n dX2_signOfFirst_2 rfl ?_
      refine zr_bipush (v := 10) dX2_signOfFirst_3 (by decide) ?_
      refine zr_icmp_ge (tgt := 35) dX2_signOfFirst_5 (by decide) (fun c_5 => absurd c_5 (by decide)) (fun c_5 => ?_)
      refine zr_aload_n dX2_signOfFirst_8 rfl ?_
      refine zr_getfield dX2_signOfFirst_9 fX2_9 h0 rfl (by decide) ?_
      refine zr_iload_n dX2_signOfFirst_12 rfl ?_
      refine zr_laload dX2_signOfFirst_13 h1 (vp_in_nI (n := 4) (by omega) (by omega)) ?_
      rw [show (4 : Int32).toNatClampNeg = 4 from by decide]
      refine zr_eql (x' := lI (w 4)) rfl ?_
      refine zr_lconst (v := lI 0) dX2_signOfFirst_14 (by decide) ?_
      refine zr_lcmp dX2_signOfFirst_15 ?_
      refine zr_if_eq (tgt := 29) dX2_signOfFirst_16 (by decide) (fun c_16 => ?_) (fun c_16 => ?_)
      · have d4 : w 4 = 0 := (lI_z (hb 4 (by decide))).mp (zcmp_eq.mp c_16)
        refine zr_iinc (v := 6) (ls' := [some (.ref v), some (.int 6)]) dX2_signOfFirst_29 rfl (by decide) (by decide) rfl ?_
        refine zr_goto (tgt := 2) dX2_signOfFirst_32 (by decide) ?_
        refine zr_iload_n dX2_signOfFirst_2 rfl ?_
        refine zr_bipush (v := 10) dX2_signOfFirst_3 (by decide) ?_
        refine zr_icmp_ge (tgt := 35) dX2_signOfFirst_5 (by decide) (fun c_5 => absurd c_5 (by decide)) (fun c_5 => ?_)
        refine zr_aload_n dX2_signOfFirst_8 rfl ?_
        refine zr_getfield dX2_signOfFirst_9 fX2_9 h0 rfl (by decide) ?_
        refine zr_iload_n dX2_signOfFirst_12 rfl ?_
        refine zr_laload dX2_signOfFirst_13 h1 (vp_in_nI (n := 6) (by omega) (by omega)) ?_
        rw [show (6 : Int32).toNatClampNeg = 6 from by decide]
        refine zr_eql (x' := lI (w 6)) rfl ?_
        refine zr_lconst (v := lI 0) dX2_signOfFirst_14 (by decide) ?_
        refine zr_lcmp dX2_signOfFirst_15 ?_
        refine zr_if_eq (tgt := 29) dX2_signOfFirst_16 (by decide) (fun c_16 => ?_) (fun c_16 => ?_)
        · have d6 : w 6 = 0 := (lI_z (hb 6 (by decide))).mp (zcmp_eq.mp c_16)
          refine zr_iinc (v := 8) (ls' := [some (.ref v), some (.int 8)]) dX2_signOfFirst_29 rfl (by decide) (by decide) rfl ?_
          refine zr_goto (tgt := 2) dX2_signOfFirst_32 (by decide) ?_
          refine zr_iload_n dX2_signOfFirst_2 rfl ?_
          refine zr_bipush (v := 10) dX2_signOfFirst_3 (by decide) ?_
          refine zr_icmp_ge (tgt := 35) dX2_signOfFirst_5 (by decide) (fun c_5 => absurd c_5 (by decide)) (fun c_5 => ?_)
          refine zr_aload_n dX2_signOfFirst_8 rfl ?_
          refine zr_getfield dX2_signOfFirst_9 fX2_9 h0 rfl (by decide) ?_
          refine zr_iload_n dX2_signOfFirst_12 rfl ?_
          refine zr_laload dX2_signOfFirst_13 h1 (vp_in_nI (n := 8) (by omega) (by omega)) ?_
          rw [show (8 : Int32).toNatClampNeg = 8 from by decide]
          refine zr_eql (x' := lI (w 8)) rfl ?_
          refine zr_lconst (v := lI 0) dX2_signOfFirst_14 (by decide) ?_
          refine zr_lcmp dX2_signOfFirst_15 ?_
          refine zr_if_eq (tgt := 29) dX2_signOfFirst_16 (by decide) (fun c_16 => ?_) (fun c_16 => ?_)
          · have d8 : w 8 = 0 := (lI_z (hb 8 (by decide))).mp (zcmp_eq.mp c_16)
            refine zr_iinc (v := 10) (ls' := [some (.ref v), some (.int 10)]) dX2_signOfFirst_29 rfl (by decide) (by decide) rfl ?_
            refine zr_goto (tgt := 2) dX2_signOfFirst_32 (by decide) ?_
            refine zr_iload_n dX2_signOfFirst_2 rfl ?_
            refine zr_bipush (v := 10) dX2_signOfFirst_3 (by decide) ?_
            refine zr_icmp_ge (tgt := 35) dX2_signOfFirst_5 (by decide) (fun c_5 => ?_) (fun c_5 => absurd (by decide) c_5)
            refine zr_iconst (v := 0) dX2_signOfFirst_35 (by decide) ?_
            exact zr_ireturn dX2_signOfFirst_36 rfl (rfl) (⟨_, rfl, by unfold zsf; rw [if_pos d0, if_pos d2, if_pos d4, if_pos d6, if_pos d8], rfl⟩)
          · have d8 : ¬ w 8 = 0 := fun q => c_16 (zcmp_eq.mpr ((lI_z (hb 8 (by decide))).mpr q))
            refine zr_aload_n dX2_signOfFirst_19 rfl ?_
            refine zr_getfield dX2_signOfFirst_20 fX2_9 h0 rfl (by decide) ?_
            refine zr_iload_n dX2_signOfFirst_23 rfl ?_
            refine zr_laload dX2_signOfFirst_24 h1 (vp_in_nI (n := 8) (by omega) (by omega)) ?_
            rw [show (8 : Int32).toNatClampNeg = 8 from by decide]
            refine zr_eql (x' := lI (w 8)) rfl ?_
            refine zr_pSi [] dX2_signOfFirst_25 vX2_32 (qX9_signOf hX σ (lI (w 8))) (by decide) (by decide) (by decide) rfl rfl (Nat.le_of_ble_eq_true rfl) rfl ?_
            exact zr_ireturn dX2_signOfFirst_28 rfl (rfl) (⟨_, rfl, by unfold zsf; rw [if_pos d0, if_pos d2, if_pos d4, if_pos d6, if_neg d8]; exact zsg_lI (hb 8 (by decide)), rfl⟩)
        · have d6 : ¬ w 6 = 0 := fun q => c_16 (zcmp_eq.mpr ((lI_z (hb 6 (by decide))).mpr q))
          refine zr_aload_n dX2_signOfFirst_19 rfl ?_
          refine zr_getfield dX2_signOfFirst_20 fX2_9 h0 rfl (by decide) ?_
          refine zr_iload_n dX2_signOfFirst_23 rfl ?_
          refine zr_laload dX2_signOfFirst_24 h1 (vp_in_nI (n := 6) (by omega) (by omega)) ?_
          rw [show (6 : Int32).toNatClampNeg = 6 from by decide]
          refine zr_eql (x' := lI (w 6)) rfl ?_
          refine zr_pSi [] dX2_signOfFirst_25 vX2_32 (qX9_signOf hX σ (lI (w 6))) (by decide) (by decide) (by decide) rfl rfl (Nat.le_of_ble_eq_true rfl) rfl ?_
          exact zr_ireturn dX2_signOfFirst_28 rfl (rfl) (⟨_, rfl, by unfold zsf; rw [if_pos d0, if_pos d2, if_pos d4, if_neg d6]; exact zsg_lI (hb 6 (by decide)), rfl⟩)
      · have d4 : ¬ w 4 = 0 := fun q => c_16 (zcmp_eq.mpr ((lI_z (hb 4 (by decide))).mpr q))
        refine zr_aload_n dX2_signOfFirst_19 rfl ?_
        refine zr_getfield dX2_signOfFirst_20 fX2_9 h0 rfl (by decide) ?_
        refine zr_iload_n dX2_signOfFirst_23 rfl ?_
        refine zr_laload dX2_signOfFirst_24 h1 (vp_in_nI (n := 4) (by omega) (by omega)) ?_
        rw [show (4 : Int32).toNatClampNeg = 4 from by decide]
        refine zr_eql (x' := lI (w 4)) rfl ?_
        refine zr_pSi [] dX2_signOfFirst_25 vX2_32 (qX9_signOf hX σ (lI (w 4))) (by decide) (by decide) (by decide) rfl rfl (Nat.le_of_ble_eq_true rfl) rfl ?_
        exact zr_ireturn dX2_signOfFirst_28 rfl (rfl) (⟨_, rfl, by unfold zsf; rw [if_pos d0, if_pos d2, if_neg d4]; exact zsg_lI (hb 4 (by decide)), rfl⟩)
    · have d2 : ¬ w 2 = 0 := fun q => c_16 (zcmp_eq.mpr ((lI_z (hb 2 (by decide))).mpr q))
      refine zr_aload_n dX2_signOfFirst_19 rfl ?_
      refine zr_getfield dX2_signOfFirst_20 fX2_9 h0 rfl (by decide) ?_
      refine zr_iload_n dX2_signOfFirst_23 rfl ?_
      refine zr_laload dX2_signOfFirst_24 h1 (vp_in_nI (n := 2) (by omega) (by omega)) ?_
      rw [show (2 : Int32).toNatClampNeg = 2 from by decide]
      refine zr_eql (x' := lI (w 2)) rfl ?_
      refine zr_pSi [] dX2_signOfFirst_25 vX2_32 (qX9_signOf hX σ (lI (w 2))) (by decide) (by decide) (by decide) rfl rfl (Nat.le_of_ble_eq_true rfl) rfl ?_
      exact zr_ireturn dX2_signOfFirst_28 rfl (rfl) (⟨_, rfl, by unfold zsf; rw [if_pos d0, if_neg d2]; exact zsg_lI (hb 2 (by decide)), rfl⟩)
  · have d0 : ¬ w 0 = 0 := fun q => c_16 (zcmp_eq.mpr ((lI_z (hb 0 (by decide))).mpr q))
    refine zr_aload_n dX2_signOfFirst_19 rfl ?_
    refine zr_getfield dX2_signOfFirst_20 fX2_9 h0 rfl (by decide) ?_
    refine zr_iload_n dX2_signOfFirst_23 rfl ?_
    refine zr_laload dX2_signOfFirst_24 h1 (vp_in_nI (n := 0) (by omega) (by omega)) ?_
    rw [show (0 : Int32).toNatClampNeg = 0 from by decide]
    refine zr_eql (x' := lI (w 0)) rfl ?_
    refine zr_pSi [] dX2_signOfFirst_25 vX2_32 (qX9_signOf hX σ (lI (w 0))) (by decide) (by decide) (by decide) rfl rfl (Nat.le_of_ble_eq_true rfl) rfl ?_
    exact zr_ireturn dX2_signOfFirst_28 rfl (rfl) (⟨_, rfl, by unfold zsf; rw [if_neg d0]; exact zsg_lI (hb 0 (by decide)), rfl⟩)

set_option maxHeartbeats 400000 in
set_option maxRecDepth 100000 in
theorem l_same {X : zX} (hX : X.1.stackTraces = false) {σ : zS} {v a v2 a2 : Nat} {w w2 : Nat → Int} (h0 : σ.1 v = .inr (0, [.ref a])) (h1 : σ.1 a = .inl (3, 10, .inr (.inl (z64 w)))) (h2 : σ.1 v2 = .inr (0, [.ref a2])) (h3 : σ.1 a2 = .inl (3, 10, .inr (.inl (z64 w2)))) (hb : zBd 4611686018427387904 w) (hb2 : zBd 4611686018427387904 w2) : ∀ (j i : Nat) , i + j = 10 → (∀ k, k < i → w k = w2 k) → zW X mX2_isSameAs 0 0 0 (zI (fun r s => r = (if zSmb w w2 = true then 1 else 0) ∧ s = σ)) 2 [some (.ref v), some (.ref v2), some (.int (nI i))] [] σ := by
  intro j
  induction j with
  | zero =>
    intro i  hi hz
    refine zr_iload_n dX2_isSameAs_2 rfl ?_
    refine zr_bipush (v := 10) dX2_isSameAs_3 (by decide) ?_
    refine zr_icmp_ge (tgt := 32) dX2_isSameAs_5 (by decide) (fun c_5 => ?_) (fun c_5 => absurd ((nI_leI (a := 10) (b := i) (by omega) (by omega)).mpr (by omega)) c_5)
    refine zr_iconst (v := 1) dX2_isSameAs_32 (by decide) ?_
    exact zr_ireturn dX2_isSameAs_33 rfl (rfl) (⟨_, rfl, (if_pos (zSmb_iff.mpr (fun k hk => hz k (by omega)))).symm, rfl⟩)
  | succ j ih =>
    intro i  hi hz
    refine zr_iload_n dX2_isSameAs_2 rfl ?_
    refine zr_bipush (v := 10) dX2_isSameAs_3 (by decide) ?_
    refine zr_icmp_ge (tgt := 32) dX2_isSameAs_5 (by decide) (fun c_5 => absurd c_5 (fun h => absurd ((nI_leI (a := 10) (b := i) (by omega) (by omega)).mp h) (by omega))) (fun c_5 => ?_)
    refine zr_aload_n dX2_isSameAs_8 rfl ?_
    refine zr_getfield dX2_isSameAs_9 fX2_9 h0 rfl (by decide) ?_
    refine zr_iload_n dX2_isSameAs_12 rfl ?_
    refine zr_laload dX2_isSameAs_13 h1 (vp_in_nI (n := i) (by omega) (by omega)) ?_
    rw [nI_clamp (n := i) (by omega)]
    refine zr_eql (x' := lI (w i)) rfl ?_
    refine zr_aload_n dX2_isSameAs_14 rfl ?_
    refine zr_getfield dX2_isSameAs_15 fX2_9 h2 rfl (by decide) ?_
    refine zr_iload_n dX2_isSameAs_18 rfl ?_
    refine zr_laload dX2_isSameAs_19 h3 (vp_in_nI (n := i) (by omega) (by omega)) ?_
    rw [nI_clamp (n := i) (by omega)]
    refine zr_eql (x' := lI (w2 i)) rfl ?_
    refine zr_lcmp dX2_isSameAs_20 ?_
    refine zr_if_eq (tgt := 26) dX2_isSameAs_21 (by decide) (fun c_21 => ?_) (fun c_21 => ?_)
    · refine zr_iinc (v := nI (i + 1)) (ls' := [some (.ref v), some (.ref v2), some (.int (nI (i + 1)))]) dX2_isSameAs_26 rfl (nI_1 _) (by decide) rfl ?_
      refine zr_goto (tgt := 2) dX2_isSameAs_29 (by decide) ?_
      exact ih (i + 1)  (by omega) (by intro k hk; by_cases e : k = i; (subst e; exact (lI_eq (by have := hb k (by omega); omega) (by have := hb2 k (by omega); omega)).mp (zcmp_eq.mp c_21)); exact hz k (by omega))
    · have d := fun q => c_21 (zcmp_eq.mpr ((lI_eq (by have := hb i (by omega); omega) (by have := hb2 i (by omega); omega)).mpr q))
      refine zr_iconst (v := 0) dX2_isSameAs_24 (by decide) ?_
      exact zr_ireturn dX2_isSameAs_25 rfl (rfl) (⟨_, rfl, (if_neg (fun q => d (zSmb_iff.mp q i (by omega)))).symm, rfl⟩)

set_option maxHeartbeats 400000 in
set_option maxRecDepth 100000 in
theorem qX2_isSameAs {X : zX} (hX : X.1.stackTraces = false) {σ : zS} {v a v2 a2 : Nat} {w w2 : Nat → Int} (h0 : σ.1 v = .inr (0, [.ref a])) (h1 : σ.1 a = .inl (3, 10, .inr (.inl (z64 w)))) (h2 : σ.1 v2 = .inr (0, [.ref a2])) (h3 : σ.1 a2 = .inl (3, 10, .inr (.inl (z64 w2)))) (hb : zBd 4611686018427387904 w) (hb2 : zBd 4611686018427387904 w2) : zMet X mX2_isSameAs yX2_isSameAs 0 0 0 [.ref v, .ref v2] σ (zI (fun r s => r = (if zSmb w w2 = true then 1 else 0) ∧ s = σ)) := by
  refine zMet_of (ls := [some (.ref v), some (.ref v2), none]) rfl (by decide +kernel) rfl (fun h => by cases h) hX (Nat.le_of_ble_eq_true rfl) rfl ?_
  refine zr_iconst (v := 0) dX2_isSameAs_0 (by decide) ?_
  refine zr_istore_n (ls' := [some (.ref v), some (.ref v2), some (.int 0)]) dX2_isSameAs_1 rfl (by decide) rfl ?_
  exact l_same hX h0 h1 h2 h3 hb hb2 10 0 (by omega) (fun k hk => by omega)

