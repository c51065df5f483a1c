/-! handles of the word that is worked on -/
theorem zix_neg {x : Int32} (h : zLt x) : zix (-x) = zix x := by
  rcases h with rfl | rfl | rfl | rfl | rfl | rfl | rfl | rfl <;> decide +kernel
theorem zWk_at {wk : Nat → Int32} {L : List Int32} (h : zP wk L.length = L) {k : Nat} (hk : k < L.length) : wk k = wv L k := by
  have e : wv (zP wk L.length) k = wk k := zP_get (f := wk) hk
  rw [h] at e; exact e.symm
set_option maxHeartbeats 400000 in
set_option maxRecDepth 100000 in
theorem l_fi {X : zX} (hX : X.1.stackTraces = false) {σ : zS} {y : Nat} {F : Nat → Int32} {L : List Int32} {Q : zO → zS → Prop} {e : Nat} (h0 : σ.1 y = zmO y F) (hF : F 19 = nI L.length) (hL : zWk y L σ) (hl : zAll L) (hlen : L.length ≤ 1300) (he : e < L.length) (kk : ∀ (s : zS) (u : Int32), zFr σ s (fun q => q = y) → s.1 y = zmO y (upd (upd F 21 u) 22 (nI e)) → ((u < 0 ∧ zhb (wv L) e = -1) ∨ ∃ p, p < e ∧ u = nI p ∧ ((wv L p = -(wv L e) ∧ zhb (wv L) e = nI p) ∨ (¬ wv L p = -(wv L e) ∧ zhb (wv L) e = -1))) → zW X mX10_finds 1 0 0 Q 93 [some (.ref y), some (.int ((zix (wv L e))))] [] s) : ∀ (i : Nat) (s : zS), (i ≤ e) → (zFr σ s (fun q => q = y)) → (s.1 y = zmO y (upd (upd F 21 (nI i - 1)) 22 (nI e))) → (zhb (wv L) e = zbh (wv L) (zix (wv L e)) (wv L e) i) → zW X mX10_finds 1 0 0 Q 39 [some (.ref y), some (.int ((zix (wv L e))))] [] s := by
  intro i
  induction i with
  | zero =>
    intro s hi hFr k0 hz
    obtain ⟨wk, w1, w2⟩ := id hL
    have kw := zFr.get hFr (by omega) w1
    refine zr_aload_n dX10_finds_39 rfl ?_
    refine zr_getM (v := .int (nI 0 - 1)) dX10_finds_40 fX10_101 k0 rfl ?_
    refine zr_if_lt (tgt := 93) dX10_finds_43 (by decide) (fun c_43 => ?_) (fun c_43 => absurd (by decide) c_43)
    exact kk _ _ hFr k0 (Or.inl ⟨by decide, hz⟩)
  | succ i ih =>
    intro s hi hFr k0 hz
    obtain ⟨wk, w1, w2⟩ := id hL
    have kw := zFr.get hFr (by omega) w1
    rw [show nI (i + 1) - 1 = nI i from nI_pred i] at k0
    refine zr_aload_n dX10_finds_39 rfl ?_
    refine zr_getM (v := .int (nI i)) dX10_finds_40 fX10_101 k0 rfl ?_
    refine zr_if_lt (tgt := 93) dX10_finds_43 (by decide) (fun c_43 => absurd c_43 (nI_pos (by omega))) (fun c_43 => ?_)
    refine zr_aload_n dX10_finds_46 rfl ?_
    refine zr_getM (v := .ref (y + 7)) dX10_finds_47 fX10_33 k0 rfl ?_
    refine zr_aload_n dX10_finds_50 rfl ?_
    refine zr_getM (v := .int (nI i)) dX10_finds_51 fX10_101 k0 rfl ?_
    refine zr_iaload dX10_finds_54 kw (vp_in_nI (n := i) (by omega) (by omega)) ?_
    rw [nI_clamp (n := i) (by omega)]
    refine zr_eqi (x' := (wv L i)) (zWk_at w2 (by omega)) ?_
    refine zr_pSi [] dX10_finds_55 vX10_97 (qX10_size hX (v := (wv L i))) (by decide) (by decide) (by decide) rfl rfl (Nat.le_of_ble_eq_true rfl) rfl ?_
    refine zr_iload_n dX10_finds_58 rfl ?_
    refine zr_icmp_eq (tgt := 93) dX10_finds_59 (by decide) (fun c_59 => ?_) (fun c_59 => ?_)
    · exact kk _ _ hFr k0 (Or.inr ⟨i, by omega, rfl, by rw [hz]; simp only [zbh]; rw [if_pos c_59]; by_cases e9 : wv L i = -(wv L e); exact Or.inl ⟨e9, if_pos e9⟩; exact Or.inr ⟨e9, if_neg e9⟩⟩)
    · refine zr_aload_n dX10_finds_62 rfl ?_
      refine zr_getM (v := .ref (y + 7)) dX10_finds_63 fX10_33 k0 rfl ?_
      refine zr_aload_n dX10_finds_66 rfl ?_
      refine zr_getM (v := .int (nI i)) dX10_finds_67 fX10_101 k0 rfl ?_
      refine zr_iaload dX10_finds_70 kw (vp_in_nI (n := i) (by omega) (by omega)) ?_
      rw [nI_clamp (n := i) (by omega)]
      refine zr_eqi (x' := (wv L i)) (zWk_at w2 (by omega)) ?_
      refine zr_pSi [] dX10_finds_71 vX10_97 (qX10_size hX (v := (wv L i))) (by decide) (by decide) (by decide) rfl rfl (Nat.le_of_ble_eq_true rfl) rfl ?_
      refine zr_iload_n dX10_finds_74 rfl ?_
      refine zr_iconst (v := 1) dX10_finds_75 (by decide) ?_
      refine zr_isub dX10_finds_76 ?_
      refine zr_icmp_eq (tgt := 93) dX10_finds_77 (by decide) (fun c_77 => ?_) (fun c_77 => ?_)
      · exact kk _ _ hFr k0 (Or.inr ⟨i, by omega, rfl, Or.inr ⟨fun e9 => c_59 (by rw [e9, zix_neg (zwv_lt hl e (by omega))]), by rw [hz]; simp only [zbh]; rw [if_neg c_59, if_pos c_77]⟩⟩)
      · refine zr_aload_n dX10_finds_80 rfl ?_
        refine zr_dup dX10_finds_81 rfl ?_
        refine zr_getM (v := .int (nI i)) dX10_finds_82 fX10_101 k0 rfl ?_
        refine zr_iconst (v := 1) dX10_finds_85 (by decide) ?_
        refine zr_isub dX10_finds_86 ?_
        refine zr_eqi (x' := (nI i - 1)) (rfl) ?_
        refine zr_putM (v := (nI i - 1)) dX10_finds_87 pX10_101 k0 (rfl) (rfl) (Nat.le_of_ble_eq_true rfl) (zms_21 _ _ _) ?_
        refine zr_sig (fun ks1 e_ks1 => ?_)
        have kh2 : ks1.1 y = zmO y (upd (upd F 21 (nI i - 1)) 22 (nI e)) := by rw [e_ks1]; exact zup_at _ _ _
        have kh3 : ks1.1 (y + 7) = .inl (0, 1300, .inl wk) := by rw [e_ks1, zup_ne _ _ (by omega)]; exact kw
        have kF4 := zFr.put hFr e_ks1 rfl
        refine zr_goto (tgt := 39) dX10_finds_90 (by decide) ?_
        exact ih _ (by omega) kF4 kh2 (by rw [hz]; simp only [zbh]; rw [if_neg c_59, if_neg c_77])

set_option maxHeartbeats 400000 in
set_option maxRecDepth 100000 in
theorem l_fo {X : zX} (hX : X.1.stackTraces = false) {σ : zS} {y : Nat} {F : Nat → Int32} {L : List Int32} (h0 : σ.1 y = zmO y F) (hF : F 19 = nI L.length) (hL : zWk y L σ) (hl : zAll L) (hlen : L.length ≤ 1300) : ∀ (j e : Nat) (s : zS) (u : Int32) (x1 : Option Value), (1 ≤ e) → (e + j = L.length ∨ (j = 0 ∧ L.length ≤ e ∧ e < 1400)) → (zFr σ s (fun q => q = y)) → (s.1 y = zmO y (upd (upd F 21 u) 22 (nI e))) → (zfe (wv L) 0 L.length = zfe (wv L) e j) → zW X mX10_finds 1 0 0 (zI (fun y_ s => ∃ (u v : Int32), zFr σ s (fun q => q = y) ∧ s.1 y = zmO y (upd (upd F 21 u) 22 v) ∧ ((y_ = 0 ∧ zfe (wv L) 0 L.length = -1) ∨ ∃ a b, y_ = 1 ∧ a < b ∧ b < L.length ∧ zfe (wv L) 0 L.length = nI b ∧ zhb (wv L) b = nI a ∧ wv L a = -(wv L b) ∧ u = nI a ∧ v = nI b))) 5 [some (.ref y), x1] [] s := by
  intro j
  induction j with
  | zero =>
    intro e s u x1 he1 hej hFr k0 hz
    obtain ⟨wk, w1, w2⟩ := id hL
    have kw := zFr.get hFr (by omega) w1
    refine zr_aload_n dX10_finds_5 rfl ?_
    refine zr_getM (v := .int (nI e)) dX10_finds_6 fX10_94 k0 rfl ?_
    refine zr_aload_n dX10_finds_9 rfl ?_
    refine zr_getM (v := .int (F 19)) dX10_finds_10 fX10_79 k0 rfl ?_
    refine zr_eqi (x' := nI L.length) hF ?_
    refine zr_icmp_ge (tgt := 137) dX10_finds_13 (by decide) (fun c_13 => ?_) (fun c_13 => absurd ((nI_leI (a := L.length) (b := e) (by omega) (by omega)).mpr (by omega)) c_13)
    refine zr_iconst (v := 0) dX10_finds_137 (by decide) ?_
    exact zr_ireturn dX10_finds_138 rfl (rfl) (⟨_, rfl, _, _, hFr, k0, Or.inl ⟨rfl, hz⟩⟩)
  | succ j ih =>
    intro e s u x1 he1 hej hFr k0 hz
    obtain ⟨wk, w1, w2⟩ := id hL
    have kw := zFr.get hFr (by omega) w1
    refine zr_aload_n dX10_finds_5 rfl ?_
    refine zr_getM (v := .int (nI e)) dX10_finds_6 fX10_94 k0 rfl ?_
    refine zr_aload_n dX10_finds_9 rfl ?_
    refine zr_getM (v := .int (F 19)) dX10_finds_10 fX10_79 k0 rfl ?_
    refine zr_eqi (x' := nI L.length) hF ?_
    refine zr_icmp_ge (tgt := 137) dX10_finds_13 (by decide) (fun c_13 => absurd c_13 (fun h => absurd ((nI_leI (a := L.length) (b := e) (by omega) (by omega)).mp h) (by omega))) (fun c_13 => ?_)
    refine zr_aload_n dX10_finds_16 rfl ?_
    refine zr_getM (v := .ref (y + 7)) dX10_finds_17 fX10_33 k0 rfl ?_
    refine zr_aload_n dX10_finds_20 rfl ?_
    refine zr_getM (v := .int (nI e)) dX10_finds_21 fX10_94 k0 rfl ?_
    refine zr_iaload dX10_finds_24 kw (vp_in_nI (n := e) (by omega) (by omega)) ?_
    rw [nI_clamp (n := e) (by omega)]
    refine zr_eqi (x' := (wv L e)) (zWk_at w2 (by omega)) ?_
    refine zr_pSi [] dX10_finds_25 vX10_97 (qX10_size hX (v := (wv L e))) (by decide) (by decide) (by decide) rfl rfl (Nat.le_of_ble_eq_true rfl) rfl ?_
    refine zr_istore_n (ls' := [some (.ref y), some (.int ((zix (wv L e))))]) dX10_finds_28 rfl (by decide) rfl ?_
    refine zr_aload_n dX10_finds_29 rfl ?_
    refine zr_aload_n dX10_finds_30 rfl ?_
    refine zr_getM (v := .int (nI e)) dX10_finds_31 fX10_94 k0 rfl ?_
    refine zr_iconst (v := 1) dX10_finds_34 (by decide) ?_
    refine zr_isub dX10_finds_35 ?_
    refine zr_eqi (x' := (nI e - 1)) (rfl) ?_
    refine zr_putM (v := (nI e - 1)) dX10_finds_36 pX10_101 k0 (rfl) (rfl) (Nat.le_of_ble_eq_true rfl) (zms_21 _ _ _) ?_
    refine zr_sig (fun ks1 e_ks1 => ?_)
    have kh2 : ks1.1 y = zmO y (upd (upd F 21 (nI e - 1)) 22 (nI e)) := by rw [e_ks1]; exact zup_at _ _ _
    have kh3 : ks1.1 (y + 7) = .inl (0, 1300, .inl wk) := by rw [e_ks1, zup_ne _ _ (by omega)]; exact kw
    have kF4 := zFr.put hFr e_ks1 rfl
    refine l_fi hX h0 hF hL hl hlen (e := e) (by omega) (fun s2 u2 hF2 k2 hu => ?_) e _ (Nat.le_refl _) kF4 (by first | exact kh2 | (rw [show nI e - 1 = nI e - 1 from rfl]; exact kh2)) rfl
    have kw2 := zFr.get hF2 (by omega) w1
    refine zr_aload_n dX10_finds_93 rfl ?_
    refine zr_getM (v := .int u2) dX10_finds_94 fX10_101 k2 rfl ?_
    refine zr_if_lt (tgt := 124) dX10_finds_97 (by decide) (fun c_97 => ?_) (fun c_97 => ?_)
    · have hz2 : zhb (wv L) e = -1 := (hu.resolve_right (fun q => by obtain ⟨p, a1, a2, a3⟩ := q; rw [a2] at c_97; exact nI_pos (by omega) c_97)).2
      refine zr_aload_n dX10_finds_124 rfl ?_
      refine zr_dup dX10_finds_125 rfl ?_
      refine zr_getM (v := .int (nI e)) dX10_finds_126 fX10_94 k2 rfl ?_
      refine zr_iconst (v := 1) dX10_finds_129 (by decide) ?_
      refine zr_iadd dX10_finds_130 ?_
      refine zr_eqi (x' := nI (e + 1)) (nI_add e 1) ?_
      refine zr_putM (v := nI (e + 1)) dX10_finds_131 pX10_94 k2 (rfl) (rfl) (Nat.le_of_ble_eq_true rfl) (zms_22 _ _ _) ?_
      refine zr_sig (fun ks5 e_ks5 => ?_)
      have kh6 : ks5.1 y = zmO y (upd (upd F 21 u2) 22 (nI (e + 1))) := by rw [e_ks5]; exact zup_at _ _ _
      have kh7 : ks5.1 (y + 7) = .inl (0, 1300, .inl wk) := by rw [e_ks5, zup_ne _ _ (by omega)]; exact kw2
      have kF8 := zFr.put hF2 e_ks5 rfl
      refine zr_goto (tgt := 5) dX10_finds_134 (by decide) ?_
      exact ih (e + 1) _ _ _ (by omega) (by omega) kF8 kh6 (by rw [hz]; simp only [zfe]; rw [if_pos hz2])
    · obtain ⟨p, hp, rfl, hu2⟩ := hu.resolve_left (fun q => c_97 q.1)
      refine zr_aload_n dX10_finds_100 rfl ?_
      refine zr_getM (v := .ref (y + 7)) dX10_finds_101 fX10_33 k2 rfl ?_
      refine zr_aload_n dX10_finds_104 rfl ?_
      refine zr_getM (v := .int (nI p)) dX10_finds_105 fX10_101 k2 rfl ?_
      refine zr_iaload dX10_finds_108 kw2 (vp_in_nI (n := p) (by omega) (by omega)) ?_
      rw [nI_clamp (n := p) (by omega)]
      refine zr_eqi (x' := (wv L p)) (zWk_at w2 (by omega)) ?_
      refine zr_aload_n dX10_finds_109 rfl ?_
      refine zr_getM (v := .ref (y + 7)) dX10_finds_110 fX10_33 k2 rfl ?_
      refine zr_aload_n dX10_finds_113 rfl ?_
      refine zr_getM (v := .int (nI e)) dX10_finds_114 fX10_94 k2 rfl ?_
      refine zr_iaload dX10_finds_117 kw2 (vp_in_nI (n := e) (by omega) (by omega)) ?_
      rw [nI_clamp (n := e) (by omega)]
      refine zr_eqi (x' := (wv L e)) (zWk_at w2 (by omega)) ?_
      refine zr_ineg dX10_finds_118 ?_
      refine zr_icmp_ne (tgt := 124) dX10_finds_119 (by decide) (fun c_119 => ?_) (fun c_119 => ?_)
      · have hz2 : zhb (wv L) e = -1 := (hu2.resolve_left (fun q => c_119 q.1)).2
        refine zr_aload_n dX10_finds_124 rfl ?_
        refine zr_dup dX10_finds_125 rfl ?_
        refine zr_getM (v := .int (nI e)) dX10_finds_126 fX10_94 k2 rfl ?_
        refine zr_iconst (v := 1) dX10_finds_129 (by decide) ?_
        refine zr_iadd dX10_finds_130 ?_
        refine zr_eqi (x' := nI (e + 1)) (nI_add e 1) ?_
        refine zr_putM (v := nI (e + 1)) dX10_finds_131 pX10_94 k2 (rfl) (rfl) (Nat.le_of_ble_eq_true rfl) (zms_22 _ _ _) ?_
        refine zr_sig (fun ks9 e_ks9 => ?_)
        have kh10 : ks9.1 y = zmO y (upd (upd F 21 (nI p)) 22 (nI (e + 1))) := by rw [e_ks9]; exact zup_at _ _ _
        have kh11 : ks9.1 (y + 7) = .inl (0, 1300, .inl wk) := by rw [e_ks9, zup_ne _ _ (by omega)]; exact kw2
        have kF12 := zFr.put hF2 e_ks9 rfl
        refine zr_goto (tgt := 5) dX10_finds_134 (by decide) ?_
        exact ih (e + 1) _ _ _ (by omega) (by omega) kF12 kh10 (by rw [hz]; simp only [zfe]; rw [if_pos hz2])
      · refine zr_iconst (v := 1) dX10_finds_122 (by decide) ?_
        refine zr_ireturn dX10_finds_123 rfl (rfl) ?_
        obtain ⟨e9, hz2⟩ := hu2.resolve_right (fun q => q.1 c_119)
        exact ⟨_, rfl, _, _, hF2, k2, Or.inr ⟨p, e, rfl, hp, by omega, by rw [hz]; simp only [zfe]; rw [if_neg (by rw [hz2]; exact nI_ne p (by omega))], hz2, e9, rfl, rfl⟩⟩
    

set_option maxHeartbeats 400000 in
set_option maxRecDepth 100000 in
theorem qX10_finds {X : zX} (hX : X.1.stackTraces = false) {σ : zS} {y : Nat} {F : Nat → Int32} {L : List Int32} (h0 : σ.1 y = zmO y F) (hF : F 19 = nI L.length) (hL : zWk y L σ) (hl : zAll L) (hlen : L.length ≤ 1300) : zMet X mX10_finds yX10_finds 1 0 0 [.ref y] σ (zI (fun y_ s => ∃ (u v : Int32), zFr σ s (fun q => q = y) ∧ s.1 y = zmO y (upd (upd F 21 u) 22 v) ∧ ((y_ = 0 ∧ zfe (wv L) 0 L.length = -1) ∨ ∃ a b, y_ = 1 ∧ a < b ∧ b < L.length ∧ zfe (wv L) 0 L.length = nI b ∧ zhb (wv L) b = nI a ∧ wv L a = -(wv L b) ∧ u = nI a ∧ v = nI b))) := by
  refine zMet_of (ls := [some (.ref y), none]) rfl (by decide +kernel) rfl (fun h => by cases h) hX (Nat.le_of_ble_eq_true rfl) rfl ?_
  refine zr_aload_n dX10_finds_0 rfl ?_
  refine zr_iconst (v := 1) dX10_finds_1 (by decide) ?_
  refine zr_putM (v := 1) dX10_finds_2 pX10_94 h0 (rfl) (rfl) (Nat.le_of_ble_eq_true rfl) (zms_22 _ _ _) ?_
  refine zr_sig (fun ks1 e_ks1 => ?_)
  have kh2 : ks1.1 y = zmO y (upd F 22 1) := by rw [e_ks1]; exact zup_at _ _ _
  have kF3 := zFr.put zFr.rf (P := (fun q => q = y)) e_ks1 rfl
  exact l_fo hX h0 hF hL hl hlen (L.length - 1) 1 _ (F 21) _ (by omega) (by omega) kF3 (by rw [kh2]; exact zmO_cg (fun k _ => by simp only [upd]; split; rfl; split; (rename_i e7; rw [e7]); rfl)) (by rcases L with _ | ⟨a, L⟩; rfl; exact (show (if zhb (wv (a :: L)) 0 = -1 then zfe (wv (a :: L)) 1 L.length else nI 0) = _ from if_pos rfl))

