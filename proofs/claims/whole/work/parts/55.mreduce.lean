/-! a handle of the word that is worked on is reduced -/
def zrs (f : Nat → Int32) (a b k : Nat) : List Int32 := if k = a ∨ k = b then [] else if a < k ∧ k < b then zrp (f a) (f k) else [f k]
def zrD (f : Nat → Int32) (a b : Nat) : Nat → List Int32
  | 0 => []
  | k + 1 => zrD f a b k ++ zrs f a b k
theorem zrp_3 (x z : Int32) : (zrp x z).length ≤ 3 := by unfold zrp; split <;> simp
theorem zrs_3 (f : Nat → Int32) (a b k : Nat) : (zrs f a b k).length ≤ 3 := by
  unfold zrs; split
  · exact Nat.zero_le _
  · split
    · exact zrp_3 _ _
    · simp
theorem zrD_3 (f : Nat → Int32) (a b : Nat) : ∀ k, (zrD f a b k).length ≤ 3 * k
  | 0 => Nat.le_refl 0
  | k + 1 => by
    have h1 := zrD_3 f a b k
    have h2 := zrs_3 f a b k
    simp only [zrD, List.length_append]; omega
theorem zrD_a (f : Nat → Int32) {a b : Nat} (hab : a < b) : ∀ k, k ≤ a → zrD f a b k = zP f k
  | 0, _ => rfl
  | k + 1, h => by
    simp only [zrD, zP]
    rw [zrD_a f hab k (by omega)]
    unfold zrs
    rw [if_neg (by omega), if_neg (by omega)]
theorem zrD_b (f : Nat → Int32) {a b : Nat} (hab : a < b) : ∀ t, a + 1 + t ≤ b → zrD f a b (a + 1 + t) = zP f a ++ (zSl f (a + 1) t).flatMap (zrp (f a))
  | 0, _ => by
    show zrD f a b a ++ zrs f a b a = _
    rw [zrD_a f hab a (Nat.le_refl _)]
    unfold zrs
    rw [if_pos (Or.inl rfl)]; rfl
  | t + 1, h => by
    show zrD f a b (a + 1 + t) ++ zrs f a b (a + 1 + t) = _
    rw [zrD_b f hab t (by omega)]
    unfold zrs
    rw [if_neg (by omega), if_pos (by omega)]
    simp only [zSl, List.flatMap_append, List.flatMap_cons, List.flatMap_nil, List.append_nil, List.append_assoc]
theorem zrD_c (f : Nat → Int32) {a b : Nat} (hab : a < b) : ∀ t, zrD f a b (b + 1 + t) = zP f a ++ ((zSl f (a + 1) (b - (a + 1))).flatMap (zrp (f a)) ++ zSl f (b + 1) t)
  | 0 => by
    show zrD f a b b ++ zrs f a b b = _
    have e := zrD_b f hab (b - (a + 1)) (by omega)
    rw [show a + 1 + (b - (a + 1)) = b by omega] at e
    rw [e]
    unfold zrs
    rw [if_pos (Or.inr rfl)]
    simp only [zSl, List.append_nil]
  | t + 1 => by
    show zrD f a b (b + 1 + t) ++ zrs f a b (b + 1 + t) = _
    rw [zrD_c f hab t]
    unfold zrs
    rw [if_neg (by omega), if_neg (by omega)]
    simp only [zSl, List.append_assoc]
theorem zP_wL (L : List Int32) : zP (wv L) L.length = L := by
  apply List.ext_getElem (zP_len _ _)
  intro i h1 h2
  have h3 : i < L.length := h2
  have e := zP_get (f := wv L) h3
  rw [List.getD_eq_getElem?_getD, List.getElem?_eq_getElem h1] at e
  have e2 : (zP (wv L) L.length)[i] = wv L i := e
  rw [e2]; unfold wv
  rw [List.getD_eq_getElem?_getD, List.getElem?_eq_getElem h3]; rfl
/-- the word behind it -/
theorem zrD_L {L : List Int32} {a b : Nat} (hab : a < b) (hb : b < L.length) : zrD (wv L) a b L.length = (L.take b).take a ++ (zinn (L.take b) a ++ L.drop (b + 1)) := by
  have e1 : L.take b = zP (wv L) b := by
    have := zP_take (wv L) (n := L.length) (a := b) (by omega)
    rw [zP_wL] at this; exact this
  have e2 : L.drop (b + 1) = zSl (wv L) (b + 1) (L.length - (b + 1)) := by
    have := zP_drop (wv L) (n := L.length) (a := b + 1) (by omega)
    rw [zP_wL] at this; exact this
  have e3 := zrD_c (wv L) hab (L.length - (b + 1))
  rw [show b + 1 + (L.length - (b + 1)) = L.length by omega] at e3
  rw [e3, e1, e2, zinn_P hab, zP_take (wv L) (n := b) (a := a) (by omega)]
theorem zrs_lt {L : List Int32} (hl : zAll L) {a b k : Nat} (hk : k < L.length) (ha : a < L.length) : zAll (zrs (wv L) a b k) := by
  unfold zrs
  split
  · exact fun y hy => by cases hy
  · split
    · exact fun y hy => zrp_lt (zwv_lt hl a ha) (zwv_lt hl k hk) y hy
    · exact zAll.one (zwv_lt hl k hk)
theorem zrD_lt {L : List Int32} (hl : zAll L) {a b : Nat} (ha : a < L.length) : ∀ k, k ≤ L.length → zAll (zrD (wv L) a b k)
  | 0, _ => fun y hy => by cases hy
  | k + 1, h => (zrD_lt hl ha k (by omega)).app (zrs_lt hl (by omega) ha)
def zCp (y : Nat) (L : List Int32) (s : zS) : Prop := ∃ cp : Nat → Int32, s.1 (y + 8) = .inl (0, 1300, .inl cp) ∧ zP cp L.length = L
def zCy (y : Nat) (s : zS) : Prop := ∃ cp : Nat → Int32, s.1 (y + 8) = .inl (0, 1300, .inl cp)
theorem zCy.fr {y : Nat} {σ s : zS} {P : Nat → Prop} (h : zCy y σ) (F : zFr σ s P) (hp : ∀ q, y + 8 ≤ q → q < y + 9 → ¬ P q) : zCy y s := by
  obtain ⟨cp, h1⟩ := h
  exact ⟨cp, F.get (hp _ (by omega) (by omega)) h1⟩
theorem zr_sg1 {x : Int32} (h : zLt x) (hp : ¬ x ≤ 0) : zsg x.toInt64 = 1 := by
  rcases h with rfl | rfl | rfl | rfl | rfl | rfl | rfl | rfl <;> first | decide +kernel | exact absurd (by decide) hp
theorem zr_sg0 {x : Int32} (h : zLt x) (hp : x ≤ 0) : zsg x.toInt64 = -1 := by
  rcases h with rfl | rfl | rfl | rfl | rfl | rfl | rfl | rfl <;> first | decide +kernel | exact absurd hp (by decide)
theorem zmul1 (x : Int32) : (1 : Int32) * x = x := Int32.one_mul x
theorem zmulm (x : Int32) : (-1 : Int32) * x = -x := by rw [Int32.neg_mul, Int32.one_mul]
set_option maxHeartbeats 400000 in
set_option maxRecDepth 100000 in
theorem l_mrb {X : zX} (hX : X.1.stackTraces = false) {σ : zS} {y : Nat} {F : Nat → Int32} {M : List Int32} {cp : Nat → Int32} (hc : zP cp M.length = M) (hM : M.length ≤ 1300) : ∀ (j i : Nat) (s : zS) (wk : Nat → Int32) (x1 x2 : Option Value), i + j = M.length → (zFr σ s (fun q => q = y ∨ q = y + 7 ∨ q = y + 8)) → (s.1 y = zmO y (upd F 19 (nI M.length))) → (s.1 (y + 7) = .inl (0, 1300, .inl wk)) → (s.1 (y + 8) = .inl (0, 1300, .inl cp)) → (∀ t, t < i → wk t = cp t) → zW X mX10_reduces 1 0 0 (zV (fun s => zFr σ s (fun q => q = y ∨ q = y + 7 ∨ q = y + 8) ∧ s.1 y = zmO y (upd F 19 (nI M.length)) ∧ zWk y M s ∧ zCy y s)) 185 [some (.ref y), x1, x2, some (.int (nI M.length)), some (.int (nI i))] [] s := by
  intro j
  induction j with
  | zero =>
    intro i s wk x1 x2 hi hFr k0 kw kc hm
    refine zr_iload dX10_reduces_185 rfl ?_
    refine zr_iload_n dX10_reduces_187 rfl ?_
    refine zr_icmp_ge (tgt := 211) dX10_reduces_188 (by decide) (fun c_188 => ?_) (fun c_188 => absurd ((nI_leI (a := M.length) (b := i) (by omega) (by omega)).mpr (by omega)) c_188)
    exact zr_return dX10_reduces_211 rfl (by have e1 : i = M.length := (by omega); subst e1; exact ⟨rfl, hFr, k0, ⟨wk, kw, (zP_congr hm).trans hc⟩, ⟨cp, kc⟩⟩)
  | succ j ih =>
    intro i s wk x1 x2 hi hFr k0 kw kc hm
    refine zr_iload dX10_reduces_185 rfl ?_
    refine zr_iload_n dX10_reduces_187 rfl ?_
    refine zr_icmp_ge (tgt := 211) dX10_reduces_188 (by decide) (fun c_188 => absurd c_188 (fun h => absurd ((nI_leI (a := M.length) (b := i) (by omega) (by omega)).mp h) (by omega))) (fun c_188 => ?_)
    refine zr_aload_n dX10_reduces_191 rfl ?_
    refine zr_getM (v := .ref (y + 7)) dX10_reduces_192 fX10_33 k0 rfl ?_
    refine zr_iload dX10_reduces_195 rfl ?_
    refine zr_aload_n dX10_reduces_197 rfl ?_
    refine zr_getM (v := .ref (y + 8)) dX10_reduces_198 fX10_36 k0 rfl ?_
    refine zr_iload dX10_reduces_201 rfl ?_
    refine zr_iaload dX10_reduces_203 kc (vp_in_nI (n := i) (by omega) (by omega)) ?_
    rw [nI_clamp (n := i) (by omega)]
    refine zr_iastore dX10_reduces_204 kw (vp_in_nI (n := i) (by omega) (by omega)) ?_
    rw [nI_clamp (n := i) (by omega)]
    refine zr_sig (fun ks1 e_ks1 => ?_)
    have kh2 : ks1.1 y = zmO y (upd F 19 (nI M.length)) := by rw [e_ks1, zup_ne _ _ (by omega)]; exact k0
    have kh3 : ks1.1 (y + 7) = .inl (0, 1300, .inl (upd wk i (cp i))) := by rw [e_ks1]; exact zup_at _ _ _
    have kh4 : ks1.1 (y + 8) = .inl (0, 1300, .inl cp) := by rw [e_ks1, zup_ne _ _ (by omega)]; exact kc
    have kF5 := zFr.put hFr e_ks1 (by first | omega | simp)
    refine zr_iinc (v := nI (i + 1)) (ls' := [some (.ref y), x1, x2, some (.int (nI M.length)), some (.int (nI (i + 1)))]) dX10_reduces_205 rfl (nI_1 _) (by decide) rfl ?_
    refine zr_goto (tgt := 185) dX10_reduces_208 (by decide) ?_
    exact ih (i + 1) _ _ _ _ (by omega) (kF5) (kh2) (kh3) (kh4) (fun t ht => by simp only [upd]; split; (rename_i e7; rw [e7]); exact hm t (by omega))

set_option maxHeartbeats 400000 in
set_option maxRecDepth 100000 in
theorem l_mrc {X : zX} (hX : X.1.stackTraces = false) {σ : zS} {y : Nat} {F : Nat → Int32} {L : List Int32} {a b : Nat} {wk : Nat → Int32} (h0 : σ.1 y = zmO y F) (hF : F 19 = nI L.length) (h21 : F 21 = nI a) (h22 : F 22 = nI b) (hL : zWk y L σ) (hl : zAll L) (hlen : L.length ≤ 400) (hab : a < b) (hb : b < L.length) (hx : wv L a = -(wv L b)) (hw : zP wk L.length = L) : ∀ (j i : Nat) (M : List Int32) (N : Nat) (s : zS) (cp : Nat → Int32), i + j = L.length → (zFr σ s (fun q => q = y ∨ q = y + 7 ∨ q = y + 8)) → (s.1 y = zmO y F) → (s.1 (y + 7) = .inl (0, 1300, .inl wk)) → (s.1 (y + 8) = .inl (0, 1300, .inl cp)) → (M = zrD (wv L) a b i) → (zP cp N = M) → (M.length = N) → zW X mX10_reduces 1 0 0 (zV (fun s => zFr σ s (fun q => q = y ∨ q = y + 7 ∨ q = y + 8) ∧ s.1 y = zmO y (upd F 19 (nI (zrD (wv L) a b L.length).length)) ∧ zWk y (zrD (wv L) a b L.length) s ∧ zCy y s)) 36 [some (.ref y), some (.int ((zix (wv L b)))), some (.int ((zsg (wv L a).toInt64))), some (.int (nI N)), some (.int (nI i))] [] s := by
  intro j
  induction j with
  | zero =>
    intro i M N s cp hi hFr k0 kw kc hM hcp hN
    have m3 := zrD_3 (wv L) a b i
    rw [← hM] at m3
    rw [hN] at m3
    have eI : i = L.length := (by omega)
    have hM2 := hM
    rw [eI] at hM2
    rw [← hM2]
    subst hN
    refine zr_iload dX10_reduces_36 rfl ?_
    refine zr_aload_n dX10_reduces_38 rfl ?_
    refine zr_getM (v := .int (F 19)) dX10_reduces_39 fX10_79 k0 rfl ?_
    refine zr_eqi (x' := nI L.length) hF ?_
    refine zr_icmp_ge (tgt := 177) dX10_reduces_42 (by decide) (fun c_42 => ?_) (fun c_42 => absurd ((nI_leI (a := L.length) (b := i) (by omega) (by omega)).mpr (by omega)) c_42)
    refine zr_aload_n dX10_reduces_177 rfl ?_
    refine zr_iload_n dX10_reduces_178 rfl ?_
    refine zr_putM (v := nI M.length) dX10_reduces_179 pX10_79 k0 (rfl) (rfl) (Nat.le_of_ble_eq_true rfl) (zms_19 _ _ _) ?_
    refine zr_sig (fun ks1 e_ks1 => ?_)
    have kh2 : ks1.1 y = zmO y (upd F 19 (nI M.length)) := by rw [e_ks1]; exact zup_at _ _ _
    have kh3 : ks1.1 (y + 7) = .inl (0, 1300, .inl wk) := by rw [e_ks1, zup_ne _ _ (by omega)]; exact kw
    have kh4 : ks1.1 (y + 8) = .inl (0, 1300, .inl cp) := by rw [e_ks1, zup_ne _ _ (by omega)]; exact kc
    have kF5 := zFr.put hFr e_ks1 (by first | omega | simp)
    refine zr_iconst (v := 0) dX10_reduces_182 (by decide) ?_
    refine zr_istore (ls' := [some (.ref y), some (.int ((zix (wv L b)))), some (.int ((zsg (wv L a).toInt64))), some (.int (nI M.length)), some (.int 0)]) dX10_reduces_183 (by decide) rfl ?_
    exact l_mrb hX hcp (by omega) M.length 0 _ _ _ _ (by omega) kF5 kh2 kh3 kh4 (fun t ht => absurd ht (by omega))
  | succ j ih =>
    intro i M N s cp hi hFr k0 kw kc hM hcp hN
    have m3 := zrD_3 (wv L) a b i
    rw [← hM] at m3
    rw [hN] at m3
    refine zr_iload dX10_reduces_36 rfl ?_
    refine zr_aload_n dX10_reduces_38 rfl ?_
    refine zr_getM (v := .int (F 19)) dX10_reduces_39 fX10_79 k0 rfl ?_
    refine zr_eqi (x' := nI L.length) hF ?_
    refine zr_icmp_ge (tgt := 177) dX10_reduces_42 (by decide) (fun c_42 => absurd c_42 (fun h => absurd ((nI_leI (a := L.length) (b := i) (by omega) (by omega)).mp h) (by omega))) (fun c_42 => ?_)
    refine zr_iload dX10_reduces_45 rfl ?_
    refine zr_aload_n dX10_reduces_47 rfl ?_
    refine zr_getM (v := .int (F 21)) dX10_reduces_48 fX10_101 k0 rfl ?_
    refine zr_eqi (x' := nI a) h21 ?_
    refine zr_icmp_eq (tgt := 171) dX10_reduces_51 (by decide) (fun c_51 => ?_) (fun c_51 => ?_)
    · refine zr_iinc (v := nI (i + 1)) (ls' := [some (.ref y), some (.int ((zix (wv L b)))), some (.int ((zsg (wv L a).toInt64))), some (.int (nI N)), some (.int (nI (i + 1)))]) dX10_reduces_171 rfl (nI_1 _) (by decide) rfl ?_
      refine zr_goto (tgt := 36) dX10_reduces_174 (by decide) ?_
      have c_51e := (nI_eq (by omega) (by omega)).mp c_51
      exact ih (i + 1) M (N) _ _ (by omega) hFr k0 kw kc (by simp only [zrD]; unfold zrs; rw [if_pos (Or.inl c_51e), List.append_nil]; exact hM) (hcp) (hN)
    · refine zr_iload dX10_reduces_54 rfl ?_
      refine zr_aload_n dX10_reduces_56 rfl ?_
      refine zr_getM (v := .int (F 22)) dX10_reduces_57 fX10_94 k0 rfl ?_
      refine zr_eqi (x' := nI b) h22 ?_
      refine zr_icmp_ne (tgt := 66) dX10_reduces_60 (by decide) (fun c_60 => ?_) (fun c_60 => ?_)
      · refine zr_iload dX10_reduces_66 rfl ?_
        refine zr_aload_n dX10_reduces_68 rfl ?_
        refine zr_getM (v := .int (F 21)) dX10_reduces_69 fX10_101 k0 rfl ?_
        refine zr_eqi (x' := nI a) h21 ?_
        refine zr_icmp_le (tgt := 155) dX10_reduces_72 (by decide) (fun c_72 => ?_) (fun c_72 => ?_)
        · refine zr_aload_n dX10_reduces_155 rfl ?_
          refine zr_getM (v := .ref (y + 8)) dX10_reduces_156 fX10_36 k0 rfl ?_
          refine zr_iload_n dX10_reduces_159 rfl ?_
          refine zr_aload_n dX10_reduces_160 rfl ?_
          refine zr_getM (v := .ref (y + 7)) dX10_reduces_161 fX10_33 k0 rfl ?_
          refine zr_iload dX10_reduces_164 rfl ?_
          refine zr_iaload dX10_reduces_166 kw (vp_in_nI (n := i) (by omega) (by omega)) ?_
          rw [nI_clamp (n := i) (by omega)]
          refine zr_eqi (x' := (wv L i)) (zWk_at hw (by omega)) ?_
          refine zr_iastore dX10_reduces_167 kc (vp_in_nI (n := N) (by omega) (by omega)) ?_
          rw [nI_clamp (n := N) (by omega)]
          refine zr_sig (fun ks1 e_ks1 => ?_)
          have kh2 : ks1.1 y = zmO y F := by rw [e_ks1, zup_ne _ _ (by omega)]; exact k0
          have kh3 : ks1.1 (y + 7) = .inl (0, 1300, .inl wk) := by rw [e_ks1, zup_ne _ _ (by omega)]; exact kw
          have kh4 : ks1.1 (y + 8) = .inl (0, 1300, .inl (upd cp N (wv L i))) := by rw [e_ks1]; exact zup_at _ _ _
          have kF5 := zFr.put hFr e_ks1 (by first | omega | simp)
          refine zr_iinc (v := nI (N + 1)) (ls' := [some (.ref y), some (.int ((zix (wv L b)))), some (.int ((zsg (wv L a).toInt64))), some (.int (nI (N + 1))), some (.int (nI i))]) dX10_reduces_168 rfl (nI_1 _) (by decide) rfl ?_
          refine zr_iinc (v := nI (i + 1)) (ls' := [some (.ref y), some (.int ((zix (wv L b)))), some (.int ((zsg (wv L a).toInt64))), some (.int (nI (N + 1))), some (.int (nI (i + 1)))]) dX10_reduces_171 rfl (nI_1 _) (by decide) rfl ?_
          refine zr_goto (tgt := 36) dX10_reduces_174 (by decide) ?_
          have n1 : ¬ (i = a ∨ i = b) := fun q => q.elim (fun q => c_51 (by rw [q])) (fun q => c_60 (by rw [q]))
          exact ih (i + 1) (M ++ [wv L i]) (N + 1) _ _ (by omega) kF5 kh2 kh3 kh4 (by simp only [zrD]; unfold zrs; rw [if_neg n1, if_neg (fun q => by have := (nI_leI (by omega) (by omega)).mp c_72; omega), ← hM]) (by rw [zP_push, hcp]) (by rw [List.length_append, List.length_singleton, hN])
        · refine zr_iload dX10_reduces_75 rfl ?_
          refine zr_aload_n dX10_reduces_77 rfl ?_
          refine zr_getM (v := .int (F 22)) dX10_reduces_78 fX10_94 k0 rfl ?_
          refine zr_eqi (x' := nI b) h22 ?_
          refine zr_icmp_ge (tgt := 155) dX10_reduces_81 (by decide) (fun c_81 => ?_) (fun c_81 => ?_)
          · refine zr_aload_n dX10_reduces_155 rfl ?_
            refine zr_getM (v := .ref (y + 8)) dX10_reduces_156 fX10_36 k0 rfl ?_
            refine zr_iload_n dX10_reduces_159 rfl ?_
            refine zr_aload_n dX10_reduces_160 rfl ?_
            refine zr_getM (v := .ref (y + 7)) dX10_reduces_161 fX10_33 k0 rfl ?_
            refine zr_iload dX10_reduces_164 rfl ?_
            refine zr_iaload dX10_reduces_166 kw (vp_in_nI (n := i) (by omega) (by omega)) ?_
            rw [nI_clamp (n := i) (by omega)]
            refine zr_eqi (x' := (wv L i)) (zWk_at hw (by omega)) ?_
            refine zr_iastore dX10_reduces_167 kc (vp_in_nI (n := N) (by omega) (by omega)) ?_
            rw [nI_clamp (n := N) (by omega)]
            refine zr_sig (fun ks6 e_ks6 => ?_)
            have kh7 : ks6.1 y = zmO y F := by rw [e_ks6, zup_ne _ _ (by omega)]; exact k0
            have kh8 : ks6.1 (y + 7) = .inl (0, 1300, .inl wk) := by rw [e_ks6, zup_ne _ _ (by omega)]; exact kw
            have kh9 : ks6.1 (y + 8) = .inl (0, 1300, .inl (upd cp N (wv L i))) := by rw [e_ks6]; exact zup_at _ _ _
            have kF10 := zFr.put hFr e_ks6 (by first | omega | simp)
            refine zr_iinc (v := nI (N + 1)) (ls' := [some (.ref y), some (.int ((zix (wv L b)))), some (.int ((zsg (wv L a).toInt64))), some (.int (nI (N + 1))), some (.int (nI i))]) dX10_reduces_168 rfl (nI_1 _) (by decide) rfl ?_
            refine zr_iinc (v := nI (i + 1)) (ls' := [some (.ref y), some (.int ((zix (wv L b)))), some (.int ((zsg (wv L a).toInt64))), some (.int (nI (N + 1))), some (.int (nI (i + 1)))]) dX10_reduces_171 rfl (nI_1 _) (by decide) rfl ?_
            refine zr_goto (tgt := 36) dX10_reduces_174 (by decide) ?_
            have n1 : ¬ (i = a ∨ i = b) := fun q => q.elim (fun q => c_51 (by rw [q])) (fun q => c_60 (by rw [q]))
            exact ih (i + 1) (M ++ [wv L i]) (N + 1) _ _ (by omega) kF10 kh7 kh8 kh9 (by simp only [zrD]; unfold zrs; rw [if_neg n1, if_neg (fun q => by have := (nI_leI (by omega) (by omega)).mp c_81; omega), ← hM]) (by rw [zP_push, hcp]) (by rw [List.length_append, List.length_singleton, hN])
          · refine zr_aload_n dX10_reduces_84 rfl ?_
            refine zr_getM (v := .ref (y + 7)) dX10_reduces_85 fX10_33 k0 rfl ?_
            refine zr_iload dX10_reduces_88 rfl ?_
            refine zr_iaload dX10_reduces_90 kw (vp_in_nI (n := i) (by omega) (by omega)) ?_
            rw [nI_clamp (n := i) (by omega)]
            refine zr_eqi (x' := (wv L i)) (zWk_at hw (by omega)) ?_
            refine zr_pSi [] dX10_reduces_91 vX10_97 (qX10_size hX (v := (wv L i))) (by decide) (by decide) (by decide) rfl rfl (Nat.le_of_ble_eq_true rfl) rfl ?_
            refine zr_iload_n dX10_reduces_94 rfl ?_
            refine zr_iconst (v := 1) dX10_reduces_95 (by decide) ?_
            refine zr_iadd dX10_reduces_96 ?_
            refine zr_icmp_ne (tgt := 155) dX10_reduces_97 (by decide) (fun c_97 => ?_) (fun c_97 => ?_)
            · refine zr_aload_n dX10_reduces_155 rfl ?_
              refine zr_getM (v := .ref (y + 8)) dX10_reduces_156 fX10_36 k0 rfl ?_
              refine zr_iload_n dX10_reduces_159 rfl ?_
              refine zr_aload_n dX10_reduces_160 rfl ?_
              refine zr_getM (v := .ref (y + 7)) dX10_reduces_161 fX10_33 k0 rfl ?_
              refine zr_iload dX10_reduces_164 rfl ?_
              refine zr_iaload dX10_reduces_166 kw (vp_in_nI (n := i) (by omega) (by omega)) ?_
              rw [nI_clamp (n := i) (by omega)]
              refine zr_eqi (x' := (wv L i)) (zWk_at hw (by omega)) ?_
              refine zr_iastore dX10_reduces_167 kc (vp_in_nI (n := N) (by omega) (by omega)) ?_
              rw [nI_clamp (n := N) (by omega)]
              refine zr_sig (fun ks11 e_ks11 => ?_)
              have kh12 : ks11.1 y = zmO y F := by rw [e_ks11, zup_ne _ _ (by omega)]; exact k0
              have kh13 : ks11.1 (y + 7) = .inl (0, 1300, .inl wk) := by rw [e_ks11, zup_ne _ _ (by omega)]; exact kw
              have kh14 : ks11.1 (y + 8) = .inl (0, 1300, .inl (upd cp N (wv L i))) := by rw [e_ks11]; exact zup_at _ _ _
              have kF15 := zFr.put hFr e_ks11 (by first | omega | simp)
              refine zr_iinc (v := nI (N + 1)) (ls' := [some (.ref y), some (.int ((zix (wv L b)))), some (.int ((zsg (wv L a).toInt64))), some (.int (nI (N + 1))), some (.int (nI i))]) dX10_reduces_168 rfl (nI_1 _) (by decide) rfl ?_
              refine zr_iinc (v := nI (i + 1)) (ls' := [some (.ref y), some (.int ((zix (wv L b)))), some (.int ((zsg (wv L a).toInt64))), some (.int (nI (N + 1))), some (.int (nI (i + 1)))]) dX10_reduces_171 rfl (nI_1 _) (by decide) rfl ?_
              refine zr_goto (tgt := 36) dX10_reduces_174 (by decide) ?_
              have n1 : ¬ (i = a ∨ i = b) := fun q => q.elim (fun q => c_51 (by rw [q])) (fun q => c_60 (by rw [q]))
              exact ih (i + 1) (M ++ [wv L i]) (N + 1) _ _ (by omega) kF15 kh12 kh13 kh14 (by simp only [zrD]; unfold zrs; rw [if_neg n1, show (if a < i ∧ i < b then zrp (wv L a) (wv L i) else [wv L i]) = [wv L i] from by split; (unfold zrp; exact if_neg (fun q => c_97 (by rw [q, hx, zix_neg (zwv_lt hl b hb)]))); rfl, ← hM]) (by rw [zP_push, hcp]) (by rw [List.length_append, List.length_singleton, hN])
            · refine zr_aload_n dX10_reduces_100 rfl ?_
              refine zr_getM (v := .ref (y + 8)) dX10_reduces_101 fX10_36 k0 rfl ?_
              refine zr_iload_n dX10_reduces_104 rfl ?_
              refine zr_iload_n dX10_reduces_105 rfl ?_
              refine zr_ineg dX10_reduces_106 ?_
              refine zr_iload_n dX10_reduces_107 rfl ?_
              refine zr_iconst (v := 1) dX10_reduces_108 (by decide) ?_
              refine zr_iadd dX10_reduces_109 ?_
              refine zr_imul dX10_reduces_110 ?_
              refine zr_iastore dX10_reduces_111 kc (vp_in_nI (n := N) (by omega) (by omega)) ?_
              rw [nI_clamp (n := N) (by omega)]
              refine zr_sig (fun ks16 e_ks16 => ?_)
              have kh17 : ks16.1 y = zmO y F := by rw [e_ks16, zup_ne _ _ (by omega)]; exact k0
              have kh18 : ks16.1 (y + 7) = .inl (0, 1300, .inl wk) := by rw [e_ks16, zup_ne _ _ (by omega)]; exact kw
              have kh19 : ks16.1 (y + 8) = .inl (0, 1300, .inl (upd cp N ((-(zsg (wv L a).toInt64)) * ((zix (wv L b)) + 1)))) := by rw [e_ks16]; exact zup_at _ _ _
              have kF20 := zFr.put hFr e_ks16 (by first | omega | simp)
              refine zr_aload_n dX10_reduces_112 rfl ?_
              refine zr_getM (v := .ref (y + 8)) dX10_reduces_113 fX10_36 kh17 rfl ?_
              refine zr_iload_n dX10_reduces_116 rfl ?_
              refine zr_iconst (v := 1) dX10_reduces_117 (by decide) ?_
              refine zr_iadd dX10_reduces_118 ?_
              refine zr_eqi (x' := nI (N + 1)) (nI_add N 1) ?_
              refine zr_aload_n dX10_reduces_119 rfl ?_
              refine zr_getM (v := .ref (y + 7)) dX10_reduces_120 fX10_33 kh17 rfl ?_
              refine zr_iload dX10_reduces_123 rfl ?_
              refine zr_iaload dX10_reduces_125 kh18 (vp_in_nI (n := i) (by omega) (by omega)) ?_
              rw [nI_clamp (n := i) (by omega)]
              refine zr_eqi (x' := (wv L i)) (zWk_at hw (by omega)) ?_
              refine zr_if_le (tgt := 133) dX10_reduces_126 (by decide) (fun c_126 => ?_) (fun c_126 => ?_)
              · refine zr_iload_n dX10_reduces_133 rfl ?_
                refine zr_ineg dX10_reduces_134 ?_
                refine zr_iastore dX10_reduces_135 kh19 (vp_in_nI (n := N + 1) (by omega) (by omega)) ?_
                rw [nI_clamp (n := N + 1) (by omega)]
                refine zr_sig (fun ks21 e_ks21 => ?_)
                have kh22 : ks21.1 y = zmO y F := by rw [e_ks21, zup_ne _ _ (by omega)]; exact kh17
                have kh23 : ks21.1 (y + 7) = .inl (0, 1300, .inl wk) := by rw [e_ks21, zup_ne _ _ (by omega)]; exact kh18
                have kh24 : ks21.1 (y + 8) = .inl (0, 1300, .inl (upd (upd cp N ((-(zsg (wv L a).toInt64)) * ((zix (wv L b)) + 1))) (N + 1) (-(zix (wv L b))))) := by rw [e_ks21]; exact zup_at _ _ _
                have kF25 := zFr.put kF20 e_ks21 (by first | omega | simp)
                refine zr_aload_n dX10_reduces_136 rfl ?_
                refine zr_getM (v := .ref (y + 8)) dX10_reduces_137 fX10_36 kh22 rfl ?_
                refine zr_iload_n dX10_reduces_140 rfl ?_
                refine zr_iconst (v := 2) dX10_reduces_141 (by decide) ?_
                refine zr_iadd dX10_reduces_142 ?_
                refine zr_eqi (x' := nI (N + 2)) (nI_add N 2) ?_
                refine zr_iload_n dX10_reduces_143 rfl ?_
                refine zr_iload_n dX10_reduces_144 rfl ?_
                refine zr_iconst (v := 1) dX10_reduces_145 (by decide) ?_
                refine zr_iadd dX10_reduces_146 ?_
                refine zr_imul dX10_reduces_147 ?_
                refine zr_iastore dX10_reduces_148 kh24 (vp_in_nI (n := N + 2) (by omega) (by omega)) ?_
                rw [nI_clamp (n := N + 2) (by omega)]
                refine zr_sig (fun ks26 e_ks26 => ?_)
                have kh27 : ks26.1 y = zmO y F := by rw [e_ks26, zup_ne _ _ (by omega)]; exact kh22
                have kh28 : ks26.1 (y + 7) = .inl (0, 1300, .inl wk) := by rw [e_ks26, zup_ne _ _ (by omega)]; exact kh23
                have kh29 : ks26.1 (y + 8) = .inl (0, 1300, .inl (upd (upd (upd cp N ((-(zsg (wv L a).toInt64)) * ((zix (wv L b)) + 1))) (N + 1) (-(zix (wv L b)))) (N + 2) ((zsg (wv L a).toInt64) * ((zix (wv L b)) + 1)))) := by rw [e_ks26]; exact zup_at _ _ _
                have kF30 := zFr.put kF25 e_ks26 (by first | omega | simp)
                refine zr_iinc (v := nI (N + 3)) (ls' := [some (.ref y), some (.int ((zix (wv L b)))), some (.int ((zsg (wv L a).toInt64))), some (.int (nI (N + 3))), some (.int (nI i))]) dX10_reduces_149 rfl (nI_add N 3) (by decide) rfl ?_
                refine zr_goto (tgt := 171) dX10_reduces_152 (by decide) ?_
                refine zr_iinc (v := nI (i + 1)) (ls' := [some (.ref y), some (.int ((zix (wv L b)))), some (.int ((zsg (wv L a).toInt64))), some (.int (nI (N + 3))), some (.int (nI (i + 1)))]) dX10_reduces_171 rfl (nI_1 _) (by decide) rfl ?_
                refine zr_goto (tgt := 36) dX10_reduces_174 (by decide) ?_
                have n2 : a < i ∧ i < b := ⟨Nat.lt_of_not_le (fun q => c_72 ((nI_leI (by omega) (by omega)).mpr q)), Nat.lt_of_not_le (fun q => c_81 ((nI_leI (by omega) (by omega)).mpr q))⟩
                have ej : zix (wv L a) = zix (wv L b) := by rw [hx, zix_neg (zwv_lt hl b hb)]
                have e2 : zsg (wv L i).toInt64 * zix (wv L a) = -(zix (wv L b)) := by rw [zr_sg0 (zwv_lt hl i (by omega)) c_126, ej]; exact zmulm _
                have n1 : ¬ (i = a ∨ i = b) := fun q => q.elim (fun q => c_51 (by rw [q])) (fun q => c_60 (by rw [q]))
                exact ih (i + 1) (M ++ [-(zsg (wv L a).toInt64) * (zix (wv L b) + 1), -(zix (wv L b)), zsg (wv L a).toInt64 * (zix (wv L b) + 1)]) (N + 3) _ _ (by omega) kF30 kh27 kh28 kh29 (by simp only [zrD]; unfold zrs; rw [if_neg n1, if_pos n2, ← hM]; unfold zrp; rw [if_pos (by rw [ej]; exact c_97), e2, ej]) (by show zP _ (N + 2 + 1) = _; rw [zP_push, zP_push, zP_push, hcp, List.append_assoc, List.append_assoc]; rfl) (by rw [List.length_append, hN]; rfl)
              · refine zr_iload_n dX10_reduces_129 rfl ?_
                refine zr_goto (tgt := 135) dX10_reduces_130 (by decide) ?_
                refine zr_iastore dX10_reduces_135 kh19 (vp_in_nI (n := N + 1) (by omega) (by omega)) ?_
                rw [nI_clamp (n := N + 1) (by omega)]
                refine zr_sig (fun ks31 e_ks31 => ?_)
                have kh32 : ks31.1 y = zmO y F := by rw [e_ks31, zup_ne _ _ (by omega)]; exact kh17
                have kh33 : ks31.1 (y + 7) = .inl (0, 1300, .inl wk) := by rw [e_ks31, zup_ne _ _ (by omega)]; exact kh18
                have kh34 : ks31.1 (y + 8) = .inl (0, 1300, .inl (upd (upd cp N ((-(zsg (wv L a).toInt64)) * ((zix (wv L b)) + 1))) (N + 1) (zix (wv L b)))) := by rw [e_ks31]; exact zup_at _ _ _
                have kF35 := zFr.put kF20 e_ks31 (by first | omega | simp)
                refine zr_aload_n dX10_reduces_136 rfl ?_
                refine zr_getM (v := .ref (y + 8)) dX10_reduces_137 fX10_36 kh32 rfl ?_
                refine zr_iload_n dX10_reduces_140 rfl ?_
                refine zr_iconst (v := 2) dX10_reduces_141 (by decide) ?_
                refine zr_iadd dX10_reduces_142 ?_
                refine zr_eqi (x' := nI (N + 2)) (nI_add N 2) ?_
                refine zr_iload_n dX10_reduces_143 rfl ?_
                refine zr_iload_n dX10_reduces_144 rfl ?_
                refine zr_iconst (v := 1) dX10_reduces_145 (by decide) ?_
                refine zr_iadd dX10_reduces_146 ?_
                refine zr_imul dX10_reduces_147 ?_
                refine zr_iastore dX10_reduces_148 kh34 (vp_in_nI (n := N + 2) (by omega) (by omega)) ?_
                rw [nI_clamp (n := N + 2) (by omega)]
                refine zr_sig (fun ks36 e_ks36 => ?_)
                have kh37 : ks36.1 y = zmO y F := by rw [e_ks36, zup_ne _ _ (by omega)]; exact kh32
                have kh38 : ks36.1 (y + 7) = .inl (0, 1300, .inl wk) := by rw [e_ks36, zup_ne _ _ (by omega)]; exact kh33
                have kh39 : ks36.1 (y + 8) = .inl (0, 1300, .inl (upd (upd (upd cp N ((-(zsg (wv L a).toInt64)) * ((zix (wv L b)) + 1))) (N + 1) (zix (wv L b))) (N + 2) ((zsg (wv L a).toInt64) * ((zix (wv L b)) + 1)))) := by rw [e_ks36]; exact zup_at _ _ _
                have kF40 := zFr.put kF35 e_ks36 (by first | omega | simp)
                refine zr_iinc (v := nI (N + 3)) (ls' := [some (.ref y), some (.int ((zix (wv L b)))), some (.int ((zsg (wv L a).toInt64))), some (.int (nI (N + 3))), some (.int (nI i))]) dX10_reduces_149 rfl (nI_add N 3) (by decide) rfl ?_
                refine zr_goto (tgt := 171) dX10_reduces_152 (by decide) ?_
                refine zr_iinc (v := nI (i + 1)) (ls' := [some (.ref y), some (.int ((zix (wv L b)))), some (.int ((zsg (wv L a).toInt64))), some (.int (nI (N + 3))), some (.int (nI (i + 1)))]) dX10_reduces_171 rfl (nI_1 _) (by decide) rfl ?_
                refine zr_goto (tgt := 36) dX10_reduces_174 (by decide) ?_
                have n2 : a < i ∧ i < b := ⟨Nat.lt_of_not_le (fun q => c_72 ((nI_leI (by omega) (by omega)).mpr q)), Nat.lt_of_not_le (fun q => c_81 ((nI_leI (by omega) (by omega)).mpr q))⟩
                have ej : zix (wv L a) = zix (wv L b) := by rw [hx, zix_neg (zwv_lt hl b hb)]
                have e2 : zsg (wv L i).toInt64 * zix (wv L a) = zix (wv L b) := by rw [zr_sg1 (zwv_lt hl i (by omega)) c_126, ej]; exact zmul1 _
                have n1 : ¬ (i = a ∨ i = b) := fun q => q.elim (fun q => c_51 (by rw [q])) (fun q => c_60 (by rw [q]))
                exact ih (i + 1) (M ++ [-(zsg (wv L a).toInt64) * (zix (wv L b) + 1), zix (wv L b), zsg (wv L a).toInt64 * (zix (wv L b) + 1)]) (N + 3) _ _ (by omega) kF40 kh37 kh38 kh39 (by simp only [zrD]; unfold zrs; rw [if_neg n1, if_pos n2, ← hM]; unfold zrp; rw [if_pos (by rw [ej]; exact c_97), e2, ej]) (by show zP _ (N + 2 + 1) = _; rw [zP_push, zP_push, zP_push, hcp, List.append_assoc, List.append_assoc]; rfl) (by rw [List.length_append, hN]; rfl)
      · refine zr_goto (tgt := 171) dX10_reduces_63 (by decide) ?_
        refine zr_iinc (v := nI (i + 1)) (ls' := [some (.ref y), some (.int ((zix (wv L b)))), some (.int ((zsg (wv L a).toInt64))), some (.int (nI N)), some (.int (nI (i + 1)))]) dX10_reduces_171 rfl (nI_1 _) (by decide) rfl ?_
        refine zr_goto (tgt := 36) dX10_reduces_174 (by decide) ?_
        have c_60e := (nI_eq (by omega) (by omega)).mp c_60
        exact ih (i + 1) M (N) _ _ (by omega) hFr k0 kw kc (by simp only [zrD]; unfold zrs; rw [if_pos (Or.inr c_60e), List.append_nil]; exact hM) (hcp) (hN)

set_option maxHeartbeats 400000 in
set_option maxRecDepth 100000 in
theorem qX10_reduces {X : zX} (hX : X.1.stackTraces = false) {σ : zS} {y : Nat} {F : Nat → Int32} {L : List Int32} {a b : Nat} (h0 : σ.1 y = zmO y F) (hF : F 19 = nI L.length) (h21 : F 21 = nI a) (h22 : F 22 = nI b) (hL : zWk y L σ) (hl : zAll L) (hlen : L.length ≤ 400) (hab : a < b) (hb : b < L.length) (hx : wv L a = -(wv L b)) (hC : zCy y σ) : zMet X mX10_reduces yX10_reduces 1 0 0 [.ref y] σ (zV (fun s => zFr σ s (fun q => q = y ∨ q = y + 7 ∨ q = y + 8) ∧ s.1 y = zmO y (upd F 19 (nI (zrD (wv L) a b L.length).length)) ∧ zWk y (zrD (wv L) a b L.length) s ∧ zCy y s)) := by
  refine zMet_of (ls := [some (.ref y), none, none, none, none]) rfl (by decide +kernel) rfl (fun h => by cases h) hX (Nat.le_of_ble_eq_true rfl) rfl ?_
  obtain ⟨wk, w1, w2⟩ := id hL
  obtain ⟨cp, q1⟩ := id hC
  refine zr_aload_n dX10_reduces_0 rfl ?_
  refine zr_getM (v := .ref (y + 7)) dX10_reduces_1 fX10_33 h0 rfl ?_
  refine zr_aload_n dX10_reduces_4 rfl ?_
  refine zr_getM (v := .int (F 22)) dX10_reduces_5 fX10_94 h0 rfl ?_
  refine zr_eqi (x' := nI b) h22 ?_
  refine zr_iaload dX10_reduces_8 w1 (vp_in_nI (n := b) (by omega) (by omega)) ?_
  rw [nI_clamp (n := b) (by omega)]
  refine zr_eqi (x' := (wv L b)) (zWk_at w2 (by omega)) ?_
  refine zr_pSi [] dX10_reduces_9 vX10_97 (qX10_size hX (v := (wv L b))) (by decide) (by decide) (by decide) rfl rfl (Nat.le_of_ble_eq_true rfl) rfl ?_
  refine zr_istore_n (ls' := [some (.ref y), some (.int ((zix (wv L b)))), none, none, none]) dX10_reduces_12 rfl (by decide) rfl ?_
  refine zr_aload_n dX10_reduces_13 rfl ?_
  refine zr_getM (v := .ref (y + 7)) dX10_reduces_14 fX10_33 h0 rfl ?_
  refine zr_aload_n dX10_reduces_17 rfl ?_
  refine zr_getM (v := .int (F 21)) dX10_reduces_18 fX10_101 h0 rfl ?_
  refine zr_eqi (x' := nI a) h21 ?_
  refine zr_iaload dX10_reduces_21 w1 (vp_in_nI (n := a) (by omega) (by omega)) ?_
  rw [nI_clamp (n := a) (by omega)]
  refine zr_eqi (x' := (wv L a)) (zWk_at w2 (by omega)) ?_
  refine zr_if_le (tgt := 29) dX10_reduces_22 (by decide) (fun c_22 => ?_) (fun c_22 => ?_)
  · refine zr_iconst (v := -1) dX10_reduces_29 (by decide) ?_
    refine zr_istore_n (ls' := [some (.ref y), some (.int ((zix (wv L b)))), some (.int ((-1))), none, none]) dX10_reduces_30 rfl (by decide) rfl ?_
    refine zr_iconst (v := 0) dX10_reduces_31 (by decide) ?_
    refine zr_istore_n (ls' := [some (.ref y), some (.int ((zix (wv L b)))), some (.int ((-1))), some (.int 0), none]) dX10_reduces_32 rfl (by decide) rfl ?_
    refine zr_iconst (v := 0) dX10_reduces_33 (by decide) ?_
    refine zr_istore (ls' := [some (.ref y), some (.int ((zix (wv L b)))), some (.int ((-1))), some (.int 0), some (.int 0)]) dX10_reduces_34 (by decide) rfl ?_
    have es := zr_sg0 (zwv_lt hl a (by omega)) c_22
    have g_ : zW X mX10_reduces 1 0 0 (zV (fun s => zFr σ s (fun q => q = y ∨ q = y + 7 ∨ q = y + 8) ∧ s.1 y = zmO y (upd F 19 (nI (zrD (wv L) a b L.length).length)) ∧ zWk y (zrD (wv L) a b L.length) s ∧ zCy y s)) 36 [some (.ref y), some (.int ((zix (wv L b)))), some (.int ((zsg (wv L a).toInt64))), some (.int (nI 0)), some (.int (nI 0))] [] σ := l_mrc hX h0 hF h21 h22 hL hl hlen hab hb hx w2 L.length 0 [] 0 _ _ (by omega) (zFr.rf (P := (fun q => q = y ∨ q = y + 7 ∨ q = y + 8))) h0 w1 q1 rfl rfl rfl; rw [es] at g_; exact g_
  · refine zr_iconst (v := 1) dX10_reduces_25 (by decide) ?_
    refine zr_goto (tgt := 30) dX10_reduces_26 (by decide) ?_
    refine zr_istore_n (ls' := [some (.ref y), some (.int ((zix (wv L b)))), some (.int 1), none, none]) dX10_reduces_30 rfl (by decide) rfl ?_
    refine zr_iconst (v := 0) dX10_reduces_31 (by decide) ?_
    refine zr_istore_n (ls' := [some (.ref y), some (.int ((zix (wv L b)))), some (.int 1), some (.int 0), none]) dX10_reduces_32 rfl (by decide) rfl ?_
    refine zr_iconst (v := 0) dX10_reduces_33 (by decide) ?_
    refine zr_istore (ls' := [some (.ref y), some (.int ((zix (wv L b)))), some (.int 1), some (.int 0), some (.int 0)]) dX10_reduces_34 (by decide) rfl ?_
    have es := zr_sg1 (zwv_lt hl a (by omega)) c_22
    have g_ : zW X mX10_reduces 1 0 0 (zV (fun s => zFr σ s (fun q => q = y ∨ q = y + 7 ∨ q = y + 8) ∧ s.1 y = zmO y (upd F 19 (nI (zrD (wv L) a b L.length).length)) ∧ zWk y (zrD (wv L) a b L.length) s ∧ zCy y s)) 36 [some (.ref y), some (.int ((zix (wv L b)))), some (.int ((zsg (wv L a).toInt64))), some (.int (nI 0)), some (.int (nI 0))] [] σ := l_mrc hX h0 hF h21 h22 hL hl hlen hab hb hx w2 L.length 0 [] 0 _ _ (by omega) (zFr.rf (P := (fun q => q = y ∨ q = y + 7 ∨ q = y + 8))) h0 w1 q1 rfl rfl rfl; rw [es] at g_; exact g_

